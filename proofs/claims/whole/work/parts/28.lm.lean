theorem vp01 : vp_in 0 1 := by unfold vp_in; decide
theorem vpi {L m : Nat} {x : Int32} (h : 7 * m + 7 ≤ L) (hL : L ≤ 3584) (q : Nat) (hq : q < 7) (e : x = nI q) : vp_in (nI (7 * m) + x) L := by
  rw [e, nI_add]; exact vp_in_nI (by omega) (by omega)
theorem rm_split {S S' : Ss} {k n : Nat} (hr : RM S k n) (L : zle S S') (b : zN S' 61 ≤ 600000 ∧ zN S' 62 ≤ 7270000) : ∃ k1 n1 k2 n2, k2 + k1 = k ∧ n2 + n1 = n ∧ zN S' 61 ≤ zN S 61 + k1 ∧ zN S' 62 ≤ zN S 62 + n1 ∧ RM S' k2 n2 := by
  have h1 := L 61
  have h2 := L 62
  obtain ⟨r1, r2⟩ := hr
  exact ⟨zN S' 61 - zN S 61, zN S' 62 - zN S 62, k - (zN S' 61 - zN S 61), n - (zN S' 62 - zN S 62), by omega, by omega, by omega, by omega, by unfold RM; omega⟩
theorem J.mout {a1 a2 a3 : Nat} {arr : Nat → Nat} {D : Nat → Nat → Nat} {σ τ : St} {S : Ss} {w : MS} (h : J a1 a2 a3 arr D σ S w) (hf : fr 2 σ τ) : sA τ a3 = sA σ a3 := by
  rcases hf with hf | hf
  · cases hf
  · exact (hf a3 (by rw [h.2.2.2.1]; decide) (by rw [h.2.2.2.1]; decide)).2.2.1
theorem l_slot {a1 a2 a3 : Nat} {arr : Nat → Nat} {D : Nat → Nat → Nat} {σ : St} {S : Ss} {w : MS} {x0 x1 x2 : Int32} {k n : Nat} (j : J a1 a2 a3 arr D σ S w) {r : Nat × Int32} {S' : Ss} (hp : (f_X11_slot x0 x1 x2).1 S = some (r, S')) (hk : zN S' 61 ≤ zN S 61 + k) (hn : zN S' 62 ≤ zN S 62 + n) {ρ : Int32} (hc : (r.1 = 0 ∧ ρ = 0) ∨ ∃ c, c ∈ ([(1, 1), (2, 2), (3, 3)] : List (Nat × Int32)) ∧ r.1 = c.1 ∧ ρ = c.2 ∧ ¬ c.1 = 0 ∧ ¬ c.2 = 0) {Q : Int32 → St → Prop} (hq : ∀ D' τ, J a1 a2 a3 arr D' τ S' w → Q ρ τ) : w_L_slot k n a1 x0 x1 x2 σ Q := by
  have hL := mle hp
  unfold w_L_slot
  refine ⟨k, n, 0, 0, by omega, by omega, q_X11_slot j.1 j.2.1 hp hk hn (fun D' τ h X h0 => ?_) (fun D' τ u h X hu h2 => ?_)⟩
  · intro he hf
    have j2 := j.cls h X hL he hf
    have hρ : ρ = 0 := by
      rcases hc with q | ⟨c, -, q1, q2, q3, q4⟩
      · exact q.2
      · exact absurd (q1.symm.trans h0) q3
    subst hρ
    exact hq D' τ j2
  · rcases hc with q | ⟨c, q0, q1, q2, q3, q4⟩
    · exact absurd (hu.symm.trans q.1) h2
    · simp only [List.mem_cons, List.not_mem_nil, or_false] at q0
      rcases q0 with rfl | rfl | rfl
      · exact Or.inl (⟨hu.symm.trans q1, fun he hf => by
          have j2 := j.cls h X hL he hf
          subst q2
          exact hq D' τ j2⟩)
      · exact Or.inr (Or.inl (⟨hu.symm.trans q1, fun he hf => by
          have j2 := j.cls h X hL he hf
          subst q2
          exact hq D' τ j2⟩))
      · exact Or.inr (Or.inr (⟨hu.symm.trans q1, fun he hf => by
          have j2 := j.cls h X hL he hf
          subst q2
          exact hq D' τ j2⟩))

theorem l_face {a1 a2 a3 : Nat} {arr : Nat → Nat} {D : Nat → Nat → Nat} {σ : St} {S : Ss} {w : MS} {x0 x1 x2 x3 : Int32} {k n : Nat} (j : J a1 a2 a3 arr D σ S w) {r : Nat × Int32} {S' : Ss} (hp : (f_X11_face x0 x1 x2 x3).1 S = some (r, S')) (hk : zN S' 61 ≤ zN S 61 + k) (hn : zN S' 62 ≤ zN S 62 + n) {ρ : Int32} (hc : (r.1 = 0 ∧ ρ = 0) ∨ ∃ c, c ∈ ([(1, 1), (2, 2), (3, 3)] : List (Nat × Int32)) ∧ r.1 = c.1 ∧ ρ = c.2 ∧ ¬ c.1 = 0 ∧ ¬ c.2 = 0) {Q : Int32 → St → Prop} (hq : ∀ D' τ, J a1 a2 a3 arr D' τ S' w → Q ρ τ) : w_L_face k n a1 x0 x1 x2 x3 σ Q := by
  have hL := mle hp
  unfold w_L_face
  refine ⟨k, n, 0, 0, by omega, by omega, q_X11_face j.1 j.2.1 hp hk hn (fun D' τ h X h0 => ?_) (fun D' τ u h X hu h2 => ?_)⟩
  · intro he hf
    have j2 := j.cls h X hL he hf
    have hρ : ρ = 0 := by
      rcases hc with q | ⟨c, -, q1, q2, q3, q4⟩
      · exact q.2
      · exact absurd (q1.symm.trans h0) q3
    subst hρ
    exact hq D' τ j2
  · rcases hc with q | ⟨c, q0, q1, q2, q3, q4⟩
    · exact absurd (hu.symm.trans q.1) h2
    · simp only [List.mem_cons, List.not_mem_nil, or_false] at q0
      rcases q0 with rfl | rfl | rfl
      · exact Or.inl (⟨hu.symm.trans q1, fun he hf => by
          have j2 := j.cls h X hL he hf
          subst q2
          exact hq D' τ j2⟩)
      · exact Or.inr (Or.inl (⟨hu.symm.trans q1, fun he hf => by
          have j2 := j.cls h X hL he hf
          subst q2
          exact hq D' τ j2⟩))
      · exact Or.inr (Or.inr (⟨hu.symm.trans q1, fun he hf => by
          have j2 := j.cls h X hL he hf
          subst q2
          exact hq D' τ j2⟩))

theorem l_item {a1 a2 a3 : Nat} {arr : Nat → Nat} {D : Nat → Nat → Nat} {σ : St} {S : Ss} {w : MS} {x0 x1 x2 x3 x4 x5 : Int32} {k n : Nat} (j : J a1 a2 a3 arr D σ S w) {r : Nat × Int32} {S' : Ss} (hp : (f_X11_item x0 x1 x2 x3 x4 x5).1 S = some (r, S')) (hk : zN S' 61 ≤ zN S 61 + k) (hn : zN S' 62 ≤ zN S 62 + n) {ρ : Int32} (hc : (r.1 = 0 ∧ ρ = 0) ∨ ∃ c, c ∈ ([(1, 1), (2, 2), (3, 3)] : List (Nat × Int32)) ∧ r.1 = c.1 ∧ ρ = c.2 ∧ ¬ c.1 = 0 ∧ ¬ c.2 = 0) {Q : Int32 → St → Prop} (hq : ∀ D' τ, J a1 a2 a3 arr D' τ S' w → Q ρ τ) : w_L_item k n a1 x0 x1 x2 x3 x4 x5 σ Q := by
  have hL := mle hp
  unfold w_L_item
  refine ⟨k, n, 0, 0, by omega, by omega, q_X11_item j.1 j.2.1 hp hk hn (fun D' τ h X h0 => ?_) (fun D' τ u h X hu h2 => ?_)⟩
  · intro he hf
    have j2 := j.cls h X hL he hf
    have hρ : ρ = 0 := by
      rcases hc with q | ⟨c, -, q1, q2, q3, q4⟩
      · exact q.2
      · exact absurd (q1.symm.trans h0) q3
    subst hρ
    exact hq D' τ j2
  · rcases hc with q | ⟨c, q0, q1, q2, q3, q4⟩
    · exact absurd (hu.symm.trans q.1) h2
    · simp only [List.mem_cons, List.not_mem_nil, or_false] at q0
      rcases q0 with rfl | rfl | rfl
      · exact Or.inl (⟨hu.symm.trans q1, fun he hf => by
          have j2 := j.cls h X hL he hf
          subst q2
          exact hq D' τ j2⟩)
      · exact Or.inr (Or.inl (⟨hu.symm.trans q1, fun he hf => by
          have j2 := j.cls h X hL he hf
          subst q2
          exact hq D' τ j2⟩))
      · exact Or.inr (Or.inr (⟨hu.symm.trans q1, fun he hf => by
          have j2 := j.cls h X hL he hf
          subst q2
          exact hq D' τ j2⟩))

theorem l_bar {a1 a2 a3 : Nat} {arr : Nat → Nat} {D : Nat → Nat → Nat} {σ : St} {S : Ss} {w : MS} {x0 x1 x2 : Int32} {k n : Nat} (j : J a1 a2 a3 arr D σ S w) {r : Nat × Int32} {S' : Ss} (hp : (f_X11_bar x0 x1 x2).1 S = some (r, S')) (hk : zN S' 61 ≤ zN S 61 + k) (hn : zN S' 62 ≤ zN S 62 + n) {ρ : Int32} (hc : (r.1 = 0 ∧ ρ = 0) ∨ ∃ c, c ∈ ([(1, 1)] : List (Nat × Int32)) ∧ r.1 = c.1 ∧ ρ = c.2 ∧ ¬ c.1 = 0 ∧ ¬ c.2 = 0) {Q : Int32 → St → Prop} (hq : ∀ D' τ, J a1 a2 a3 arr D' τ S' w → (r.1 = 0 → sA τ a3 (0 : Int32).toNatClampNeg = if r.2 = 0 then 0 else 1) → Q ρ τ) : w_L_bar k n a1 x0 x1 x2 a3 σ Q := by
  have hL := mle hp
  unfold w_L_bar
  refine ⟨k, n, 0, 0, by omega, by omega, q_X11_bar j.1 j.2.1 hp hk hn (fun D' τ h X h0 => ?_) (fun D' τ u h X hu h2 => ?_)⟩
  · intro he hf
    have j2 := j.cls h X hL he hf
    have hρ : ρ = 0 := by
      rcases hc with q | ⟨c, -, q1, q2, q3, q4⟩
      · exact q.2
      · exact absurd (q1.symm.trans h0) q3
    subst hρ
    refine ⟨fun c => ?_, fun c => ?_⟩
    · unfold w_L_bar_18
      refine ⟨by rw [j2.2.2.2.2]; exact vp01, ?_⟩
      rintro s rfl
      refine hq D' _ (j2.out rfl) (fun _ => ?_)
      rw [sA_setA, u2_at, if_pos ⟨rfl, rfl⟩, if_pos c]
    · unfold w_L_bar_18
      refine ⟨by rw [j2.2.2.2.2]; exact vp01, ?_⟩
      rintro s rfl
      refine hq D' _ (j2.out rfl) (fun _ => ?_)
      rw [sA_setA, u2_at, if_pos ⟨rfl, rfl⟩, if_neg c]
  · rcases hc with q | ⟨c, q0, q1, q2, q3, q4⟩
    · exact absurd (hu.symm.trans q.1) h2
    · simp only [List.mem_cons, List.not_mem_nil, or_false] at q0
      subst q0
      exact ⟨hu.symm.trans q1, fun he hf => by
          have j2 := j.cls h X hL he hf
          subst q2
          exact hq D' τ j2 (fun r0 => absurd (q1.symm.trans r0) (by decide))⟩

theorem l_lot {a1 a2 a3 : Nat} {arr : Nat → Nat} {D : Nat → Nat → Nat} {σ : St} {S : Ss} {w : MS} {x0 x1 : Int32} {k n : Nat} (j : J a1 a2 a3 arr D σ S w) {r : Nat × Int32} {S' : Ss} (hp : (f_X11_lot x0 x1).1 S = some (r, S')) (hk : zN S' 61 ≤ zN S 61 + k) (hn : zN S' 62 ≤ zN S 62 + n) {ρ : Int32} (hc : (r.1 = 0 ∧ ρ = 0) ∨ ∃ c, c ∈ ([(1, 1), (2, 2), (3, 3)] : List (Nat × Int32)) ∧ r.1 = c.1 ∧ ρ = c.2 ∧ ¬ c.1 = 0 ∧ ¬ c.2 = 0) {Q : Int32 → St → Prop} (hq : ∀ D' τ, J a1 a2 a3 arr D' τ S' w → (r.1 = 0 → sA τ a3 (0 : Int32).toNatClampNeg = r.2) → Q ρ τ) : w_L_lot k n a1 x0 x1 a3 σ Q := by
  have hL := mle hp
  unfold w_L_lot
  refine ⟨k, n, 0, 0, by omega, by omega, q_X11_lot j.1 j.2.1 hp hk hn (fun D' τ h X h0 => ?_) (fun D' τ u h X hu h2 => ?_)⟩
  · intro he hf
    have j2 := j.cls h X hL he hf
    have hρ : ρ = 0 := by
      rcases hc with q | ⟨c, -, q1, q2, q3, q4⟩
      · exact q.2
      · exact absurd (q1.symm.trans h0) q3
    subst hρ
    refine ⟨by rw [j2.2.2.2.2]; exact vp01, ?_⟩
    rintro s rfl
    exact hq D' _ (j2.out rfl) (fun _ => by rw [sA_setA, u2_at, if_pos ⟨rfl, rfl⟩])
  · rcases hc with q | ⟨c, q0, q1, q2, q3, q4⟩
    · exact absurd (hu.symm.trans q.1) h2
    · simp only [List.mem_cons, List.not_mem_nil, or_false] at q0
      rcases q0 with rfl | rfl | rfl
      · exact Or.inl (⟨hu.symm.trans q1, fun he hf => by
          have j2 := j.cls h X hL he hf
          subst q2
          exact hq D' τ j2 (fun r0 => absurd (q1.symm.trans r0) (by decide))⟩)
      · exact Or.inr (Or.inl (⟨hu.symm.trans q1, fun he hf => by
          have j2 := j.cls h X hL he hf
          subst q2
          exact hq D' τ j2 (fun r0 => absurd (q1.symm.trans r0) (by decide))⟩))
      · exact Or.inr (Or.inr (⟨hu.symm.trans q1, fun he hf => by
          have j2 := j.cls h X hL he hf
          subst q2
          exact hq D' τ j2 (fun r0 => absurd (q1.symm.trans r0) (by decide))⟩))

theorem l_stock {a1 a2 a3 : Nat} {arr : Nat → Nat} {D : Nat → Nat → Nat} {σ : St} {S : Ss} {w : MS} {x0 x1 : Int32} {k n : Nat} (j : J a1 a2 a3 arr D σ S w) {r : Nat × Int32} {S' : Ss} (hp : (f_X11_stock x0 x1).1 S = some (r, S')) (hk : zN S' 61 ≤ zN S 61 + k) (hn : zN S' 62 ≤ zN S 62 + n) {ρ : Int32} (hc : (r.1 = 0 ∧ ρ = 0) ∨ ∃ c, c ∈ ([(1, 1)] : List (Nat × Int32)) ∧ r.1 = c.1 ∧ ρ = c.2 ∧ ¬ c.1 = 0 ∧ ¬ c.2 = 0) {Q : Int32 → St → Prop} (hq : ∀ D' τ, J a1 a2 a3 arr D' τ S' w → (r.1 = 0 → sA τ a3 (0 : Int32).toNatClampNeg = r.2) → Q ρ τ) : w_L_stock k n a1 x0 x1 a3 σ Q := by
  have hL := mle hp
  unfold w_L_stock
  refine ⟨k, n, 0, 0, by omega, by omega, q_X11_stock j.1 j.2.1 hp hk hn (fun D' τ h X h0 => ?_) (fun D' τ u h X hu h2 => ?_)⟩
  · intro he hf
    have j2 := j.cls h X hL he hf
    have hρ : ρ = 0 := by
      rcases hc with q | ⟨c, -, q1, q2, q3, q4⟩
      · exact q.2
      · exact absurd (q1.symm.trans h0) q3
    subst hρ
    refine ⟨by rw [j2.2.2.2.2]; exact vp01, ?_⟩
    rintro s rfl
    exact hq D' _ (j2.out rfl) (fun _ => by rw [sA_setA, u2_at, if_pos ⟨rfl, rfl⟩])
  · rcases hc with q | ⟨c, q0, q1, q2, q3, q4⟩
    · exact absurd (hu.symm.trans q.1) h2
    · simp only [List.mem_cons, List.not_mem_nil, or_false] at q0
      subst q0
      exact ⟨hu.symm.trans q1, fun he hf => by
          have j2 := j.cls h X hL he hf
          subst q2
          exact hq D' τ j2 (fun r0 => absurd (q1.symm.trans r0) (by decide))⟩

theorem l_stockAnew {a1 a2 a3 : Nat} {arr : Nat → Nat} {D : Nat → Nat → Nat} {σ : St} {S : Ss} {w : MS} {x0 x1 : Int32} {k n : Nat} (j : J a1 a2 a3 arr D σ S w) {r : Nat × Int32} {S' : Ss} (hp : (f_X11_stockAnew x0 x1).1 S = some (r, S')) (hk : zN S' 61 ≤ zN S 61 + k) (hn : zN S' 62 ≤ zN S 62 + n) {ρ : Int32} (hc : (r.1 = 0 ∧ ρ = 0) ∨ ∃ c, c ∈ ([(1, 1)] : List (Nat × Int32)) ∧ r.1 = c.1 ∧ ρ = c.2 ∧ ¬ c.1 = 0 ∧ ¬ c.2 = 0) {Q : Int32 → St → Prop} (hq : ∀ D' τ, J a1 a2 a3 arr D' τ S' w → (r.1 = 0 → sA τ a3 (0 : Int32).toNatClampNeg = r.2) → Q ρ τ) : w_L_stockAnew k n a1 x0 x1 a3 σ Q := by
  have hL := mle hp
  unfold w_L_stockAnew
  refine ⟨k, n, 0, 0, by omega, by omega, q_X11_stockAnew j.1 j.2.1 hp hk hn (fun D' τ h X h0 => ?_) (fun D' τ u h X hu h2 => ?_)⟩
  · intro he hf
    have j2 := j.cls h X hL he hf
    have hρ : ρ = 0 := by
      rcases hc with q | ⟨c, -, q1, q2, q3, q4⟩
      · exact q.2
      · exact absurd (q1.symm.trans h0) q3
    subst hρ
    refine ⟨by rw [j2.2.2.2.2]; exact vp01, ?_⟩
    rintro s rfl
    exact hq D' _ (j2.out rfl) (fun _ => by rw [sA_setA, u2_at, if_pos ⟨rfl, rfl⟩])
  · rcases hc with q | ⟨c, q0, q1, q2, q3, q4⟩
    · exact absurd (hu.symm.trans q.1) h2
    · simp only [List.mem_cons, List.not_mem_nil, or_false] at q0
      subst q0
      exact ⟨hu.symm.trans q1, fun he hf => by
          have j2 := j.cls h X hL he hf
          subst q2
          exact hq D' τ j2 (fun r0 => absurd (q1.symm.trans r0) (by decide))⟩

theorem l_free {a1 a2 a3 : Nat} {arr : Nat → Nat} {D : Nat → Nat → Nat} {σ : St} {S : Ss} {w : MS} {x0 x1 : Int32} {k n : Nat} (j : J a1 a2 a3 arr D σ S w) {r : Nat × Int32} {S' : Ss} (hp : (f_X11_free x0 x1).1 S = some (r, S')) (hk : zN S' 61 ≤ zN S 61 + k) (hn : zN S' 62 ≤ zN S 62 + n) {ρ : Int32} (hc : (r.1 = 0 ∧ ρ = 0) ∨ ∃ c, c ∈ ([(1, 1)] : List (Nat × Int32)) ∧ r.1 = c.1 ∧ ρ = c.2 ∧ ¬ c.1 = 0 ∧ ¬ c.2 = 0) {Q : Int32 → St → Prop} (hq : ∀ D' τ, J a1 a2 a3 arr D' τ S' w → (r.1 = 0 → sA τ a3 (0 : Int32).toNatClampNeg = r.2) → Q ρ τ) : w_L_free k n a1 x0 x1 a3 σ Q := by
  have hL := mle hp
  unfold w_L_free
  refine ⟨k, n, 0, 0, by omega, by omega, q_X11_free j.1 j.2.1 hp hk hn (fun D' τ h X h0 => ?_) (fun D' τ u h X hu h2 => ?_)⟩
  · intro he hf
    have j2 := j.cls h X hL he hf
    have hρ : ρ = 0 := by
      rcases hc with q | ⟨c, -, q1, q2, q3, q4⟩
      · exact q.2
      · exact absurd (q1.symm.trans h0) q3
    subst hρ
    refine ⟨by rw [j2.2.2.2.2]; exact vp01, ?_⟩
    rintro s rfl
    exact hq D' _ (j2.out rfl) (fun _ => by rw [sA_setA, u2_at, if_pos ⟨rfl, rfl⟩])
  · rcases hc with q | ⟨c, q0, q1, q2, q3, q4⟩
    · exact absurd (hu.symm.trans q.1) h2
    · simp only [List.mem_cons, List.not_mem_nil, or_false] at q0
      subst q0
      exact ⟨hu.symm.trans q1, fun he hf => by
          have j2 := j.cls h X hL he hf
          subst q2
          exact hq D' τ j2 (fun r0 => absurd (q1.symm.trans r0) (by decide))⟩

theorem l_room {a1 a2 a3 : Nat} {arr : Nat → Nat} {D : Nat → Nat → Nat} {σ : St} {S : Ss} {w : MS} {x0 : Int32} {k n : Nat} (j : J a1 a2 a3 arr D σ S w) {r : Nat × Int32} {S' : Ss} (hp : (f_X11_room x0).1 S = some (r, S')) (hk : zN S' 61 ≤ zN S 61 + k) (hn : zN S' 62 ≤ zN S 62 + n) {ρ : Int32} (hc : (r.1 = 0 ∧ ρ = 0) ∨ ∃ c, c ∈ ([(1, 1)] : List (Nat × Int32)) ∧ r.1 = c.1 ∧ ρ = c.2 ∧ ¬ c.1 = 0 ∧ ¬ c.2 = 0) {Q : Int32 → St → Prop} (hq : ∀ D' τ, J a1 a2 a3 arr D' τ S' w → (r.1 = 0 → sA τ a3 (0 : Int32).toNatClampNeg = r.2) → Q ρ τ) : w_L_room k n a1 x0 a3 σ Q := by
  have hL := mle hp
  unfold w_L_room
  refine ⟨k, n, 0, 0, by omega, by omega, q_X11_room j.1 j.2.1 hp hk hn (fun D' τ h X h0 => ?_) (fun D' τ u h X hu h2 => ?_)⟩
  · intro he hf
    have j2 := j.cls h X hL he hf
    have hρ : ρ = 0 := by
      rcases hc with q | ⟨c, -, q1, q2, q3, q4⟩
      · exact q.2
      · exact absurd (q1.symm.trans h0) q3
    subst hρ
    refine ⟨by rw [j2.2.2.2.2]; exact vp01, ?_⟩
    rintro s rfl
    exact hq D' _ (j2.out rfl) (fun _ => by rw [sA_setA, u2_at, if_pos ⟨rfl, rfl⟩])
  · rcases hc with q | ⟨c, q0, q1, q2, q3, q4⟩
    · exact absurd (hu.symm.trans q.1) h2
    · simp only [List.mem_cons, List.not_mem_nil, or_false] at q0
      subst q0
      exact ⟨hu.symm.trans q1, fun he hf => by
          have j2 := j.cls h X hL he hf
          subst q2
          exact hq D' τ j2 (fun r0 => absurd (q1.symm.trans r0) (by decide))⟩

theorem l_notice {a1 a2 a3 : Nat} {arr : Nat → Nat} {D : Nat → Nat → Nat} {σ : St} {S : Ss} {w : MS} {x0 x1 : Int32} {k n : Nat} (j : J a1 a2 a3 arr D σ S w) {r : Nat × Int32} {S' : Ss} (hp : (f_X11_notice x0 x1).1 S = some (r, S')) (hk : zN S' 61 ≤ zN S 61 + k) (hn : zN S' 62 ≤ zN S 62 + n) {ρ : Int32} (hc : (r.1 = 0 ∧ ρ = 0) ∨ ∃ c, c ∈ ([(1, 1), (2, 2), (3, 3)] : List (Nat × Int32)) ∧ r.1 = c.1 ∧ ρ = c.2 ∧ ¬ c.1 = 0 ∧ ¬ c.2 = 0) {Q : Int32 → St → Prop} (hq : ∀ D' τ, J a1 a2 a3 arr D' τ S' w → (r.1 = 0 → sA τ a3 (0 : Int32).toNatClampNeg = r.2) → Q ρ τ) : w_L_notice k n a1 x0 x1 a3 σ Q := by
  have hL := mle hp
  unfold w_L_notice
  refine ⟨k, n, 0, 0, by omega, by omega, q_X11_notice j.1 j.2.1 hp hk hn (fun D' τ h X h0 => ?_) (fun D' τ u h X hu h2 => ?_)⟩
  · intro he hf
    have j2 := j.cls h X hL he hf
    have hρ : ρ = 0 := by
      rcases hc with q | ⟨c, -, q1, q2, q3, q4⟩
      · exact q.2
      · exact absurd (q1.symm.trans h0) q3
    subst hρ
    refine ⟨by rw [j2.2.2.2.2]; exact vp01, ?_⟩
    rintro s rfl
    exact hq D' _ (j2.out rfl) (fun _ => by rw [sA_setA, u2_at, if_pos ⟨rfl, rfl⟩])
  · rcases hc with q | ⟨c, q0, q1, q2, q3, q4⟩
    · exact absurd (hu.symm.trans q.1) h2
    · simp only [List.mem_cons, List.not_mem_nil, or_false] at q0
      rcases q0 with rfl | rfl | rfl
      · exact Or.inl (⟨hu.symm.trans q1, fun he hf => by
          have j2 := j.cls h X hL he hf
          subst q2
          exact hq D' τ j2 (fun r0 => absurd (q1.symm.trans r0) (by decide))⟩)
      · exact Or.inr (Or.inl (⟨hu.symm.trans q1, fun he hf => by
          have j2 := j.cls h X hL he hf
          subst q2
          exact hq D' τ j2 (fun r0 => absurd (q1.symm.trans r0) (by decide))⟩))
      · exact Or.inr (Or.inr (⟨hu.symm.trans q1, fun he hf => by
          have j2 := j.cls h X hL he hf
          subst q2
          exact hq D' τ j2 (fun r0 => absurd (q1.symm.trans r0) (by decide))⟩))

theorem l_receive {a1 a2 a3 : Nat} {arr : Nat → Nat} {D : Nat → Nat → Nat} {σ : St} {S : Ss} {w : MS} {x0 x1 x2 : Int32} {k n : Nat} (j : J a1 a2 a3 arr D σ S w) {r : Nat × Int32} {S' : Ss} (hp : (f_X11_receive x0 x1 x2).1 S = some (r, S')) (hk : zN S' 61 ≤ zN S 61 + k) (hn : zN S' 62 ≤ zN S 62 + n) {ρ : Int32} (hc : (r.1 = 0 ∧ ρ = 0) ∨ ∃ c, c ∈ ([(1, 1), (2, 2), (3, 3)] : List (Nat × Int32)) ∧ r.1 = c.1 ∧ ρ = c.2 ∧ ¬ c.1 = 0 ∧ ¬ c.2 = 0) {Q : Int32 → St → Prop} (hq : ∀ D' τ, J a1 a2 a3 arr D' τ S' w → (r.1 = 0 → sA τ a3 (0 : Int32).toNatClampNeg = r.2) → Q ρ τ) : w_L_receive k n a1 x0 x1 x2 a3 σ Q := by
  have hL := mle hp
  unfold w_L_receive
  refine ⟨k, n, 0, 0, by omega, by omega, q_X11_receive j.1 j.2.1 hp hk hn (fun D' τ h X h0 => ?_) (fun D' τ u h X hu h2 => ?_)⟩
  · intro he hf
    have j2 := j.cls h X hL he hf
    have hρ : ρ = 0 := by
      rcases hc with q | ⟨c, -, q1, q2, q3, q4⟩
      · exact q.2
      · exact absurd (q1.symm.trans h0) q3
    subst hρ
    refine ⟨by rw [j2.2.2.2.2]; exact vp01, ?_⟩
    rintro s rfl
    exact hq D' _ (j2.out rfl) (fun _ => by rw [sA_setA, u2_at, if_pos ⟨rfl, rfl⟩])
  · rcases hc with q | ⟨c, q0, q1, q2, q3, q4⟩
    · exact absurd (hu.symm.trans q.1) h2
    · simp only [List.mem_cons, List.not_mem_nil, or_false] at q0
      rcases q0 with rfl | rfl | rfl
      · exact Or.inl (⟨hu.symm.trans q1, fun he hf => by
          have j2 := j.cls h X hL he hf
          subst q2
          exact hq D' τ j2 (fun r0 => absurd (q1.symm.trans r0) (by decide))⟩)
      · exact Or.inr (Or.inl (⟨hu.symm.trans q1, fun he hf => by
          have j2 := j.cls h X hL he hf
          subst q2
          exact hq D' τ j2 (fun r0 => absurd (q1.symm.trans r0) (by decide))⟩))
      · exact Or.inr (Or.inr (⟨hu.symm.trans q1, fun he hf => by
          have j2 := j.cls h X hL he hf
          subst q2
          exact hq D' τ j2 (fun r0 => absurd (q1.symm.trans r0) (by decide))⟩))

theorem l_close {a1 a2 a3 : Nat} {arr : Nat → Nat} {D : Nat → Nat → Nat} {σ : St} {S : Ss} {w : MS} {x0 : Int32} {k n : Nat} (j : J a1 a2 a3 arr D σ S w) {r : Nat × Int32} {S' : Ss} (hp : (f_X11_close x0).1 S = some (r, S')) (hk : zN S' 61 ≤ zN S 61 + k) (hn : zN S' 62 ≤ zN S 62 + n) {ρ : Int32} (hc : (r.1 = 0 ∧ ρ = 0) ∨ ∃ c, c ∈ ([(1, 1), (3, 2)] : List (Nat × Int32)) ∧ r.1 = c.1 ∧ ρ = c.2 ∧ ¬ c.1 = 0 ∧ ¬ c.2 = 0) {Q : Int32 → St → Prop} (hq : ∀ D' τ, J a1 a2 a3 arr D' τ S' w → (r.1 = 0 → sA τ a3 (0 : Int32).toNatClampNeg = r.2) → Q ρ τ) : w_L_close k n a1 x0 a3 σ Q := by
  have hL := mle hp
  unfold w_L_close
  refine ⟨k, n, 0, 0, by omega, by omega, q_X11_close j.1 j.2.1 hp hk hn (fun D' τ h X h0 => ?_) (fun D' τ u h X hu h2 => ?_)⟩
  · intro he hf
    have j2 := j.cls h X hL he hf
    have hρ : ρ = 0 := by
      rcases hc with q | ⟨c, -, q1, q2, q3, q4⟩
      · exact q.2
      · exact absurd (q1.symm.trans h0) q3
    subst hρ
    refine ⟨by rw [j2.2.2.2.2]; exact vp01, ?_⟩
    rintro s rfl
    exact hq D' _ (j2.out rfl) (fun _ => by rw [sA_setA, u2_at, if_pos ⟨rfl, rfl⟩])
  · rcases hc with q | ⟨c, q0, q1, q2, q3, q4⟩
    · exact absurd (hu.symm.trans q.1) h2
    · simp only [List.mem_cons, List.not_mem_nil, or_false] at q0
      rcases q0 with rfl | rfl
      · exact Or.inl (⟨hu.symm.trans q1, fun he hf => by
          have j2 := j.cls h X hL he hf
          subst q2
          exact hq D' τ j2 (fun r0 => absurd (q1.symm.trans r0) (by decide))⟩)
      · exact Or.inr (⟨hu.symm.trans q1, fun he hf => by
          have j2 := j.cls h X hL he hf
          subst q2
          exact hq D' τ j2 (fun r0 => absurd (q1.symm.trans r0) (by decide))⟩)

theorem l_others {a1 a2 a3 : Nat} {arr : Nat → Nat} {D : Nat → Nat → Nat} {σ : St} {S : Ss} {w : MS} {x0 : Int32} {k n : Nat} (j : J a1 a2 a3 arr D σ S w) {r : Nat × Int32} {S' : Ss} (hp : (f_X11_others x0).1 S = some (r, S')) (hk : zN S' 61 ≤ zN S 61 + k) (hn : zN S' 62 ≤ zN S 62 + n) {ρ : Int32} (hc : (r.1 = 0 ∧ ρ = 0) ∨ ∃ c, c ∈ ([(1, 1)] : List (Nat × Int32)) ∧ r.1 = c.1 ∧ ρ = c.2 ∧ ¬ c.1 = 0 ∧ ¬ c.2 = 0) {Q : Int32 → St → Prop} (hq : ∀ D' τ, J a1 a2 a3 arr D' τ S' w → (r.1 = 0 → sA τ a3 (0 : Int32).toNatClampNeg = r.2) → Q ρ τ) : w_L_others k n a1 x0 a3 σ Q := by
  have hL := mle hp
  unfold w_L_others
  refine ⟨k, n, 0, 0, by omega, by omega, q_X11_others j.1 j.2.1 hp hk hn (fun D' τ h X h0 => ?_) (fun D' τ u h X hu h2 => ?_)⟩
  · intro he hf
    have j2 := j.cls h X hL he hf
    have hρ : ρ = 0 := by
      rcases hc with q | ⟨c, -, q1, q2, q3, q4⟩
      · exact q.2
      · exact absurd (q1.symm.trans h0) q3
    subst hρ
    refine ⟨by rw [j2.2.2.2.2]; exact vp01, ?_⟩
    rintro s rfl
    exact hq D' _ (j2.out rfl) (fun _ => by rw [sA_setA, u2_at, if_pos ⟨rfl, rfl⟩])
  · rcases hc with q | ⟨c, q0, q1, q2, q3, q4⟩
    · exact absurd (hu.symm.trans q.1) h2
    · simp only [List.mem_cons, List.not_mem_nil, or_false] at q0
      subst q0
      exact ⟨hu.symm.trans q1, fun he hf => by
          have j2 := j.cls h X hL he hf
          subst q2
          exact hq D' τ j2 (fun r0 => absurd (q1.symm.trans r0) (by decide))⟩

theorem l_putAway {a1 a2 a3 : Nat} {arr : Nat → Nat} {D : Nat → Nat → Nat} {σ : St} {S : Ss} {w : MS} {x0 x1 : Int32} {k n : Nat} (j : J a1 a2 a3 arr D σ S w) {r : Nat × Int32} {S' : Ss} (hp : (f_X11_putAway x0 x1).1 S = some (r, S')) (hk : zN S' 61 ≤ zN S 61 + k) (hn : zN S' 62 ≤ zN S 62 + n) {ρ : Int32} (hc : (r.1 = 0 ∧ ρ = 0) ∨ ∃ c, c ∈ ([(1, 1), (2, 2), (3, 3)] : List (Nat × Int32)) ∧ r.1 = c.1 ∧ ρ = c.2 ∧ ¬ c.1 = 0 ∧ ¬ c.2 = 0) {Q : Int32 → St → Prop} (hq : ∀ D' τ, J a1 a2 a3 arr D' τ S' w → (r.1 = 0 → sA τ a3 (0 : Int32).toNatClampNeg = r.2) → Q ρ τ) : w_L_putAway k n a1 x0 x1 a3 σ Q := by
  have hL := mle hp
  unfold w_L_putAway
  refine ⟨k, n, 0, 0, by omega, by omega, q_X11_putAway j.1 j.2.1 hp hk hn (fun D' τ h X h0 => ?_) (fun D' τ u h X hu h2 => ?_)⟩
  · intro he hf
    have j2 := j.cls h X hL he hf
    have hρ : ρ = 0 := by
      rcases hc with q | ⟨c, -, q1, q2, q3, q4⟩
      · exact q.2
      · exact absurd (q1.symm.trans h0) q3
    subst hρ
    refine ⟨by rw [j2.2.2.2.2]; exact vp01, ?_⟩
    rintro s rfl
    exact hq D' _ (j2.out rfl) (fun _ => by rw [sA_setA, u2_at, if_pos ⟨rfl, rfl⟩])
  · rcases hc with q | ⟨c, q0, q1, q2, q3, q4⟩
    · exact absurd (hu.symm.trans q.1) h2
    · simp only [List.mem_cons, List.not_mem_nil, or_false] at q0
      rcases q0 with rfl | rfl | rfl
      · exact Or.inl (⟨hu.symm.trans q1, fun he hf => by
          have j2 := j.cls h X hL he hf
          subst q2
          exact hq D' τ j2 (fun r0 => absurd (q1.symm.trans r0) (by decide))⟩)
      · exact Or.inr (Or.inl (⟨hu.symm.trans q1, fun he hf => by
          have j2 := j.cls h X hL he hf
          subst q2
          exact hq D' τ j2 (fun r0 => absurd (q1.symm.trans r0) (by decide))⟩))
      · exact Or.inr (Or.inr (⟨hu.symm.trans q1, fun he hf => by
          have j2 := j.cls h X hL he hf
          subst q2
          exact hq D' τ j2 (fun r0 => absurd (q1.symm.trans r0) (by decide))⟩))

theorem l_order {a1 a2 a3 : Nat} {arr : Nat → Nat} {D : Nat → Nat → Nat} {σ : St} {S : Ss} {w : MS} {x0 x1 x2 : Int32} {k n : Nat} (j : J a1 a2 a3 arr D σ S w) {r : Nat × Int32} {S' : Ss} (hp : (f_X11_order x0 x1 x2).1 S = some (r, S')) (hk : zN S' 61 ≤ zN S 61 + k) (hn : zN S' 62 ≤ zN S 62 + n) {ρ : Int32} (hc : (r.1 = 0 ∧ ρ = 0) ∨ ∃ c, c ∈ ([(2, 1), (3, 2)] : List (Nat × Int32)) ∧ r.1 = c.1 ∧ ρ = c.2 ∧ ¬ c.1 = 0 ∧ ¬ c.2 = 0) {Q : Int32 → St → Prop} (hq : ∀ D' τ, J a1 a2 a3 arr D' τ S' w → (r.1 = 0 → sA τ a3 (0 : Int32).toNatClampNeg = r.2) → Q ρ τ) : w_L_order k n a1 x0 x1 x2 a3 σ Q := by
  have hL := mle hp
  unfold w_L_order
  refine ⟨k, n, 0, 0, by omega, by omega, q_X11_order j.1 j.2.1 hp hk hn (fun D' τ h X h0 => ?_) (fun D' τ u h X hu h2 => ?_)⟩
  · intro he hf
    have j2 := j.cls h X hL he hf
    have hρ : ρ = 0 := by
      rcases hc with q | ⟨c, -, q1, q2, q3, q4⟩
      · exact q.2
      · exact absurd (q1.symm.trans h0) q3
    subst hρ
    refine ⟨by rw [j2.2.2.2.2]; exact vp01, ?_⟩
    rintro s rfl
    exact hq D' _ (j2.out rfl) (fun _ => by rw [sA_setA, u2_at, if_pos ⟨rfl, rfl⟩])
  · rcases hc with q | ⟨c, q0, q1, q2, q3, q4⟩
    · exact absurd (hu.symm.trans q.1) h2
    · simp only [List.mem_cons, List.not_mem_nil, or_false] at q0
      rcases q0 with rfl | rfl
      · exact Or.inl (⟨hu.symm.trans q1, fun he hf => by
          have j2 := j.cls h X hL he hf
          subst q2
          exact hq D' τ j2 (fun r0 => absurd (q1.symm.trans r0) (by decide))⟩)
      · exact Or.inr (⟨hu.symm.trans q1, fun he hf => by
          have j2 := j.cls h X hL he hf
          subst q2
          exact hq D' τ j2 (fun r0 => absurd (q1.symm.trans r0) (by decide))⟩)

theorem l_line {a1 a2 a3 : Nat} {arr : Nat → Nat} {D : Nat → Nat → Nat} {σ : St} {S : Ss} {w : MS} {x0 x1 x2 : Int32} {k n : Nat} (j : J a1 a2 a3 arr D σ S w) {r : Nat × Int32} {S' : Ss} (hp : (f_X11_line x0 x1 x2).1 S = some (r, S')) (hk : zN S' 61 ≤ zN S 61 + k) (hn : zN S' 62 ≤ zN S 62 + n) {ρ : Int32} (hc : (r.1 = 0 ∧ ρ = 0) ∨ ∃ c, c ∈ ([(1, 1), (2, 2), (3, 3)] : List (Nat × Int32)) ∧ r.1 = c.1 ∧ ρ = c.2 ∧ ¬ c.1 = 0 ∧ ¬ c.2 = 0) {Q : Int32 → St → Prop} (hq : ∀ D' τ, J a1 a2 a3 arr D' τ S' w → (r.1 = 0 → sA τ a3 (0 : Int32).toNatClampNeg = r.2) → Q ρ τ) : w_L_line k n a1 x0 x1 x2 a3 σ Q := by
  have hL := mle hp
  unfold w_L_line
  refine ⟨k, n, 0, 0, by omega, by omega, q_X11_line j.1 j.2.1 hp hk hn (fun D' τ h X h0 => ?_) (fun D' τ u h X hu h2 => ?_)⟩
  · intro he hf
    have j2 := j.cls h X hL he hf
    have hρ : ρ = 0 := by
      rcases hc with q | ⟨c, -, q1, q2, q3, q4⟩
      · exact q.2
      · exact absurd (q1.symm.trans h0) q3
    subst hρ
    refine ⟨by rw [j2.2.2.2.2]; exact vp01, ?_⟩
    rintro s rfl
    exact hq D' _ (j2.out rfl) (fun _ => by rw [sA_setA, u2_at, if_pos ⟨rfl, rfl⟩])
  · rcases hc with q | ⟨c, q0, q1, q2, q3, q4⟩
    · exact absurd (hu.symm.trans q.1) h2
    · simp only [List.mem_cons, List.not_mem_nil, or_false] at q0
      rcases q0 with rfl | rfl | rfl
      · exact Or.inl (⟨hu.symm.trans q1, fun he hf => by
          have j2 := j.cls h X hL he hf
          subst q2
          exact hq D' τ j2 (fun r0 => absurd (q1.symm.trans r0) (by decide))⟩)
      · exact Or.inr (Or.inl (⟨hu.symm.trans q1, fun he hf => by
          have j2 := j.cls h X hL he hf
          subst q2
          exact hq D' τ j2 (fun r0 => absurd (q1.symm.trans r0) (by decide))⟩))
      · exact Or.inr (Or.inr (⟨hu.symm.trans q1, fun he hf => by
          have j2 := j.cls h X hL he hf
          subst q2
          exact hq D' τ j2 (fun r0 => absurd (q1.symm.trans r0) (by decide))⟩))

theorem l_lacks {a1 a2 a3 : Nat} {arr : Nat → Nat} {D : Nat → Nat → Nat} {σ : St} {S : Ss} {w : MS} {x0 x1 : Int32} {k n : Nat} (j : J a1 a2 a3 arr D σ S w) {r : Nat × Int32} {S' : Ss} (hp : (f_X11_lacks x0 x1).1 S = some (r, S')) (hk : zN S' 61 ≤ zN S 61 + k) (hn : zN S' 62 ≤ zN S 62 + n) {ρ : Int32} (hc : (r.1 = 0 ∧ ρ = 0) ∨ ∃ c, c ∈ ([(1, 1)] : List (Nat × Int32)) ∧ r.1 = c.1 ∧ ρ = c.2 ∧ ¬ c.1 = 0 ∧ ¬ c.2 = 0) {Q : Int32 → St → Prop} (hq : ∀ D' τ, J a1 a2 a3 arr D' τ S' w → (r.1 = 0 → sA τ a3 (0 : Int32).toNatClampNeg = r.2) → Q ρ τ) : w_L_lacks k n a1 x0 x1 a3 σ Q := by
  have hL := mle hp
  unfold w_L_lacks
  refine ⟨k, n, 0, 0, by omega, by omega, q_X11_lacks j.1 j.2.1 hp hk hn (fun D' τ h X h0 => ?_) (fun D' τ u h X hu h2 => ?_)⟩
  · intro he hf
    have j2 := j.cls h X hL he hf
    have hρ : ρ = 0 := by
      rcases hc with q | ⟨c, -, q1, q2, q3, q4⟩
      · exact q.2
      · exact absurd (q1.symm.trans h0) q3
    subst hρ
    refine ⟨by rw [j2.2.2.2.2]; exact vp01, ?_⟩
    rintro s rfl
    exact hq D' _ (j2.out rfl) (fun _ => by rw [sA_setA, u2_at, if_pos ⟨rfl, rfl⟩])
  · rcases hc with q | ⟨c, q0, q1, q2, q3, q4⟩
    · exact absurd (hu.symm.trans q.1) h2
    · simp only [List.mem_cons, List.not_mem_nil, or_false] at q0
      subst q0
      exact ⟨hu.symm.trans q1, fun he hf => by
          have j2 := j.cls h X hL he hf
          subst q2
          exact hq D' τ j2 (fun r0 => absurd (q1.symm.trans r0) (by decide))⟩

theorem l_held {a1 a2 a3 : Nat} {arr : Nat → Nat} {D : Nat → Nat → Nat} {σ : St} {S : Ss} {w : MS} {x0 x1 x2 : Int32} {k n : Nat} (j : J a1 a2 a3 arr D σ S w) {r : Nat × Int32} {S' : Ss} (hp : (f_X11_held x0 x1 x2).1 S = some (r, S')) (hk : zN S' 61 ≤ zN S 61 + k) (hn : zN S' 62 ≤ zN S 62 + n) {ρ : Int32} (hc : (r.1 = 0 ∧ ρ = 0) ∨ ∃ c, c ∈ ([(1, 1)] : List (Nat × Int32)) ∧ r.1 = c.1 ∧ ρ = c.2 ∧ ¬ c.1 = 0 ∧ ¬ c.2 = 0) {Q : Int32 → St → Prop} (hq : ∀ D' τ, J a1 a2 a3 arr D' τ S' w → (r.1 = 0 → sA τ a3 (0 : Int32).toNatClampNeg = r.2) → Q ρ τ) : w_L_held k n a1 x0 x1 x2 a3 σ Q := by
  have hL := mle hp
  unfold w_L_held
  refine ⟨k, n, 0, 0, by omega, by omega, q_X11_held j.1 j.2.1 hp hk hn (fun D' τ h X h0 => ?_) (fun D' τ u h X hu h2 => ?_)⟩
  · intro he hf
    have j2 := j.cls h X hL he hf
    have hρ : ρ = 0 := by
      rcases hc with q | ⟨c, -, q1, q2, q3, q4⟩
      · exact q.2
      · exact absurd (q1.symm.trans h0) q3
    subst hρ
    refine ⟨by rw [j2.2.2.2.2]; exact vp01, ?_⟩
    rintro s rfl
    exact hq D' _ (j2.out rfl) (fun _ => by rw [sA_setA, u2_at, if_pos ⟨rfl, rfl⟩])
  · rcases hc with q | ⟨c, q0, q1, q2, q3, q4⟩
    · exact absurd (hu.symm.trans q.1) h2
    · simp only [List.mem_cons, List.not_mem_nil, or_false] at q0
      subst q0
      exact ⟨hu.symm.trans q1, fun he hf => by
          have j2 := j.cls h X hL he hf
          subst q2
          exact hq D' τ j2 (fun r0 => absurd (q1.symm.trans r0) (by decide))⟩

theorem l_wave {a1 a2 a3 : Nat} {arr : Nat → Nat} {D : Nat → Nat → Nat} {σ : St} {S : Ss} {w : MS} {x0 x1 : Int32} {k n : Nat} (j : J a1 a2 a3 arr D σ S w) {r : Nat × Int32} {S' : Ss} (hp : (f_X11_wave x0 x1).1 S = some (r, S')) (hk : zN S' 61 ≤ zN S 61 + k) (hn : zN S' 62 ≤ zN S 62 + n) {ρ : Int32} (hc : (r.1 = 0 ∧ ρ = 0) ∨ ∃ c, c ∈ ([(1, 1), (2, 2), (3, 3)] : List (Nat × Int32)) ∧ r.1 = c.1 ∧ ρ = c.2 ∧ ¬ c.1 = 0 ∧ ¬ c.2 = 0) {Q : Int32 → St → Prop} (hq : ∀ D' τ, J a1 a2 a3 arr D' τ S' w → (r.1 = 0 → sA τ a3 (0 : Int32).toNatClampNeg = r.2) → Q ρ τ) : w_L_wave k n a1 x0 x1 a3 σ Q := by
  have hL := mle hp
  unfold w_L_wave
  refine ⟨k, n, 0, 0, by omega, by omega, q_X11_wave j.1 j.2.1 hp hk hn (fun D' τ h X h0 => ?_) (fun D' τ u h X hu h2 => ?_)⟩
  · intro he hf
    have j2 := j.cls h X hL he hf
    have hρ : ρ = 0 := by
      rcases hc with q | ⟨c, -, q1, q2, q3, q4⟩
      · exact q.2
      · exact absurd (q1.symm.trans h0) q3
    subst hρ
    refine ⟨by rw [j2.2.2.2.2]; exact vp01, ?_⟩
    rintro s rfl
    exact hq D' _ (j2.out rfl) (fun _ => by rw [sA_setA, u2_at, if_pos ⟨rfl, rfl⟩])
  · rcases hc with q | ⟨c, q0, q1, q2, q3, q4⟩
    · exact absurd (hu.symm.trans q.1) h2
    · simp only [List.mem_cons, List.not_mem_nil, or_false] at q0
      rcases q0 with rfl | rfl | rfl
      · exact Or.inl (⟨hu.symm.trans q1, fun he hf => by
          have j2 := j.cls h X hL he hf
          subst q2
          exact hq D' τ j2 (fun r0 => absurd (q1.symm.trans r0) (by decide))⟩)
      · exact Or.inr (Or.inl (⟨hu.symm.trans q1, fun he hf => by
          have j2 := j.cls h X hL he hf
          subst q2
          exact hq D' τ j2 (fun r0 => absurd (q1.symm.trans r0) (by decide))⟩))
      · exact Or.inr (Or.inr (⟨hu.symm.trans q1, fun he hf => by
          have j2 := j.cls h X hL he hf
          subst q2
          exact hq D' τ j2 (fun r0 => absurd (q1.symm.trans r0) (by decide))⟩))

theorem l_give {a1 a2 a3 : Nat} {arr : Nat → Nat} {D : Nat → Nat → Nat} {σ : St} {S : Ss} {w : MS} {x0 x1 : Int32} {k n : Nat} (j : J a1 a2 a3 arr D σ S w) {r : Nat × Int32} {S' : Ss} (hp : (f_X11_give x0 x1).1 S = some (r, S')) (hk : zN S' 61 ≤ zN S 61 + k) (hn : zN S' 62 ≤ zN S 62 + n) {ρ : Int32} (hc : (r.1 = 0 ∧ ρ = 0) ∨ ∃ c, c ∈ ([(1, 1), (3, 2)] : List (Nat × Int32)) ∧ r.1 = c.1 ∧ ρ = c.2 ∧ ¬ c.1 = 0 ∧ ¬ c.2 = 0) {Q : Int32 → St → Prop} (hq : ∀ D' τ, J a1 a2 a3 arr D' τ S' w → (r.1 = 0 → sA τ a3 (0 : Int32).toNatClampNeg = r.2) → Q ρ τ) : w_L_give k n a1 x0 x1 a3 σ Q := by
  have hL := mle hp
  unfold w_L_give
  refine ⟨k, n, 0, 0, by omega, by omega, q_X11_give j.1 j.2.1 hp hk hn (fun D' τ h X h0 => ?_) (fun D' τ u h X hu h2 => ?_)⟩
  · intro he hf
    have j2 := j.cls h X hL he hf
    have hρ : ρ = 0 := by
      rcases hc with q | ⟨c, -, q1, q2, q3, q4⟩
      · exact q.2
      · exact absurd (q1.symm.trans h0) q3
    subst hρ
    refine ⟨by rw [j2.2.2.2.2]; exact vp01, ?_⟩
    rintro s rfl
    exact hq D' _ (j2.out rfl) (fun _ => by rw [sA_setA, u2_at, if_pos ⟨rfl, rfl⟩])
  · rcases hc with q | ⟨c, q0, q1, q2, q3, q4⟩
    · exact absurd (hu.symm.trans q.1) h2
    · simp only [List.mem_cons, List.not_mem_nil, or_false] at q0
      rcases q0 with rfl | rfl
      · exact Or.inl (⟨hu.symm.trans q1, fun he hf => by
          have j2 := j.cls h X hL he hf
          subst q2
          exact hq D' τ j2 (fun r0 => absurd (q1.symm.trans r0) (by decide))⟩)
      · exact Or.inr (⟨hu.symm.trans q1, fun he hf => by
          have j2 := j.cls h X hL he hf
          subst q2
          exact hq D' τ j2 (fun r0 => absurd (q1.symm.trans r0) (by decide))⟩)

theorem l_pass {a1 a2 a3 : Nat} {arr : Nat → Nat} {D : Nat → Nat → Nat} {σ : St} {S : Ss} {w : MS} {x0 : Int32} {k n : Nat} (j : J a1 a2 a3 arr D σ S w) {r : Nat × Int32} {S' : Ss} (hp : (f_X11_pass x0).1 S = some (r, S')) (hk : zN S' 61 ≤ zN S 61 + k) (hn : zN S' 62 ≤ zN S 62 + n) {ρ : Int32} (hc : (r.1 = 0 ∧ ρ = 0) ∨ ∃ c, c ∈ ([(2, 1)] : List (Nat × Int32)) ∧ r.1 = c.1 ∧ ρ = c.2 ∧ ¬ c.1 = 0 ∧ ¬ c.2 = 0) {Q : Int32 → St → Prop} (hq : ∀ D' τ, J a1 a2 a3 arr D' τ S' w → (r.1 = 0 → sA τ a3 (0 : Int32).toNatClampNeg = r.2) → Q ρ τ) : w_L_pass k n a1 x0 a3 σ Q := by
  have hL := mle hp
  unfold w_L_pass
  refine ⟨k, n, 0, 0, by omega, by omega, q_X11_pass j.1 j.2.1 hp hk hn (fun D' τ h X h0 => ?_) (fun D' τ u h X hu h2 => ?_)⟩
  · intro he hf
    have j2 := j.cls h X hL he hf
    have hρ : ρ = 0 := by
      rcases hc with q | ⟨c, -, q1, q2, q3, q4⟩
      · exact q.2
      · exact absurd (q1.symm.trans h0) q3
    subst hρ
    refine ⟨by rw [j2.2.2.2.2]; exact vp01, ?_⟩
    rintro s rfl
    exact hq D' _ (j2.out rfl) (fun _ => by rw [sA_setA, u2_at, if_pos ⟨rfl, rfl⟩])
  · rcases hc with q | ⟨c, q0, q1, q2, q3, q4⟩
    · exact absurd (hu.symm.trans q.1) h2
    · simp only [List.mem_cons, List.not_mem_nil, or_false] at q0
      subst q0
      exact ⟨hu.symm.trans q1, fun he hf => by
          have j2 := j.cls h X hL he hf
          subst q2
          exact hq D' τ j2 (fun r0 => absurd (q1.symm.trans r0) (by decide))⟩

theorem l_where {a1 a2 a3 : Nat} {arr : Nat → Nat} {D : Nat → Nat → Nat} {σ : St} {S : Ss} {w : MS} {x0 : Int32} {k n : Nat} (j : J a1 a2 a3 arr D σ S w) {r : Nat × Int32} {S' : Ss} (hp : (f_X11_where x0).1 S = some (r, S')) (hk : zN S' 61 ≤ zN S 61 + k) (hn : zN S' 62 ≤ zN S 62 + n) {ρ : Int32} (hc : (r.1 = 0 ∧ ρ = 0) ∨ ∃ c, c ∈ ([(1, 1)] : List (Nat × Int32)) ∧ r.1 = c.1 ∧ ρ = c.2 ∧ ¬ c.1 = 0 ∧ ¬ c.2 = 0) {Q : Int32 → St → Prop} (hq : ∀ D' τ, J a1 a2 a3 arr D' τ S' w → (r.1 = 0 → sA τ a3 (0 : Int32).toNatClampNeg = r.2) → Q ρ τ) : w_L_where k n a1 x0 a3 σ Q := by
  have hL := mle hp
  unfold w_L_where
  refine ⟨k, n, 0, 0, by omega, by omega, q_X11_where j.1 j.2.1 hp hk hn (fun D' τ h X h0 => ?_) (fun D' τ u h X hu h2 => ?_)⟩
  · intro he hf
    have j2 := j.cls h X hL he hf
    have hρ : ρ = 0 := by
      rcases hc with q | ⟨c, -, q1, q2, q3, q4⟩
      · exact q.2
      · exact absurd (q1.symm.trans h0) q3
    subst hρ
    refine ⟨by rw [j2.2.2.2.2]; exact vp01, ?_⟩
    rintro s rfl
    exact hq D' _ (j2.out rfl) (fun _ => by rw [sA_setA, u2_at, if_pos ⟨rfl, rfl⟩])
  · rcases hc with q | ⟨c, q0, q1, q2, q3, q4⟩
    · exact absurd (hu.symm.trans q.1) h2
    · simp only [List.mem_cons, List.not_mem_nil, or_false] at q0
      subst q0
      exact ⟨hu.symm.trans q1, fun he hf => by
          have j2 := j.cls h X hL he hf
          subst q2
          exact hq D' τ j2 (fun r0 => absurd (q1.symm.trans r0) (by decide))⟩

theorem l_doing {a1 a2 a3 : Nat} {arr : Nat → Nat} {D : Nat → Nat → Nat} {σ : St} {S : Ss} {w : MS} {x0 : Int32} {k n : Nat} (j : J a1 a2 a3 arr D σ S w) {r : Nat × Int32} {S' : Ss} (hp : (f_X11_doing x0).1 S = some (r, S')) (hk : zN S' 61 ≤ zN S 61 + k) (hn : zN S' 62 ≤ zN S 62 + n) {ρ : Int32} (hc : (r.1 = 0 ∧ ρ = 0) ∨ ∃ c, c ∈ ([(1, 1)] : List (Nat × Int32)) ∧ r.1 = c.1 ∧ ρ = c.2 ∧ ¬ c.1 = 0 ∧ ¬ c.2 = 0) {Q : Int32 → St → Prop} (hq : ∀ D' τ, J a1 a2 a3 arr D' τ S' w → (r.1 = 0 → sA τ a3 (0 : Int32).toNatClampNeg = r.2) → Q ρ τ) : w_L_doing k n a1 x0 a3 σ Q := by
  have hL := mle hp
  unfold w_L_doing
  refine ⟨k, n, 0, 0, by omega, by omega, q_X11_doing j.1 j.2.1 hp hk hn (fun D' τ h X h0 => ?_) (fun D' τ u h X hu h2 => ?_)⟩
  · intro he hf
    have j2 := j.cls h X hL he hf
    have hρ : ρ = 0 := by
      rcases hc with q | ⟨c, -, q1, q2, q3, q4⟩
      · exact q.2
      · exact absurd (q1.symm.trans h0) q3
    subst hρ
    refine ⟨by rw [j2.2.2.2.2]; exact vp01, ?_⟩
    rintro s rfl
    exact hq D' _ (j2.out rfl) (fun _ => by rw [sA_setA, u2_at, if_pos ⟨rfl, rfl⟩])
  · rcases hc with q | ⟨c, q0, q1, q2, q3, q4⟩
    · exact absurd (hu.symm.trans q.1) h2
    · simp only [List.mem_cons, List.not_mem_nil, or_false] at q0
      subst q0
      exact ⟨hu.symm.trans q1, fun he hf => by
          have j2 := j.cls h X hL he hf
          subst q2
          exact hq D' τ j2 (fun r0 => absurd (q1.symm.trans r0) (by decide))⟩

theorem l_taskAt {a1 a2 a3 : Nat} {arr : Nat → Nat} {D : Nat → Nat → Nat} {σ : St} {S : Ss} {w : MS} {x0 : Int32} {k n : Nat} (j : J a1 a2 a3 arr D σ S w) {r : Nat × Int32} {S' : Ss} (hp : (f_X11_taskAt x0).1 S = some (r, S')) (hk : zN S' 61 ≤ zN S 61 + k) (hn : zN S' 62 ≤ zN S 62 + n) {ρ : Int32} (hc : (r.1 = 0 ∧ ρ = 0) ∨ ∃ c, c ∈ ([(1, 1)] : List (Nat × Int32)) ∧ r.1 = c.1 ∧ ρ = c.2 ∧ ¬ c.1 = 0 ∧ ¬ c.2 = 0) {Q : Int32 → St → Prop} (hq : ∀ D' τ, J a1 a2 a3 arr D' τ S' w → (r.1 = 0 → sA τ a3 (0 : Int32).toNatClampNeg = r.2) → Q ρ τ) : w_L_taskAt k n a1 x0 a3 σ Q := by
  have hL := mle hp
  unfold w_L_taskAt
  refine ⟨k, n, 0, 0, by omega, by omega, q_X11_taskAt j.1 j.2.1 hp hk hn (fun D' τ h X h0 => ?_) (fun D' τ u h X hu h2 => ?_)⟩
  · intro he hf
    have j2 := j.cls h X hL he hf
    have hρ : ρ = 0 := by
      rcases hc with q | ⟨c, -, q1, q2, q3, q4⟩
      · exact q.2
      · exact absurd (q1.symm.trans h0) q3
    subst hρ
    refine ⟨by rw [j2.2.2.2.2]; exact vp01, ?_⟩
    rintro s rfl
    exact hq D' _ (j2.out rfl) (fun _ => by rw [sA_setA, u2_at, if_pos ⟨rfl, rfl⟩])
  · rcases hc with q | ⟨c, q0, q1, q2, q3, q4⟩
    · exact absurd (hu.symm.trans q.1) h2
    · simp only [List.mem_cons, List.not_mem_nil, or_false] at q0
      subst q0
      exact ⟨hu.symm.trans q1, fun he hf => by
          have j2 := j.cls h X hL he hf
          subst q2
          exact hq D' τ j2 (fun r0 => absurd (q1.symm.trans r0) (by decide))⟩

theorem l_lose {a1 a2 a3 : Nat} {arr : Nat → Nat} {D : Nat → Nat → Nat} {σ : St} {S : Ss} {w : MS} {x0 x1 x2 : Int32} {k n : Nat} (j : J a1 a2 a3 arr D σ S w) {r : Nat × Int32} {S' : Ss} (hp : (f_X11_lose x0 x1 x2).1 S = some (r, S')) (hk : zN S' 61 ≤ zN S 61 + k) (hn : zN S' 62 ≤ zN S 62 + n) {ρ : Int32} (hc : (r.1 = 0 ∧ ρ = 0) ∨ ∃ c, c ∈ ([(1, 1), (2, 2)] : List (Nat × Int32)) ∧ r.1 = c.1 ∧ ρ = c.2 ∧ ¬ c.1 = 0 ∧ ¬ c.2 = 0) {Q : Int32 → St → Prop} (hq : ∀ D' τ, J a1 a2 a3 arr D' τ S' w → (r.1 = 0 → sA τ a3 (0 : Int32).toNatClampNeg = r.2) → Q ρ τ) : w_L_lose k n a1 x0 x1 x2 a3 σ Q := by
  have hL := mle hp
  unfold w_L_lose
  refine ⟨k, n, 0, 0, by omega, by omega, q_X11_lose j.1 j.2.1 hp hk hn (fun D' τ h X h0 => ?_) (fun D' τ u h X hu h2 => ?_)⟩
  · intro he hf
    have j2 := j.cls h X hL he hf
    have hρ : ρ = 0 := by
      rcases hc with q | ⟨c, -, q1, q2, q3, q4⟩
      · exact q.2
      · exact absurd (q1.symm.trans h0) q3
    subst hρ
    refine ⟨by rw [j2.2.2.2.2]; exact vp01, ?_⟩
    rintro s rfl
    exact hq D' _ (j2.out rfl) (fun _ => by rw [sA_setA, u2_at, if_pos ⟨rfl, rfl⟩])
  · rcases hc with q | ⟨c, q0, q1, q2, q3, q4⟩
    · exact absurd (hu.symm.trans q.1) h2
    · simp only [List.mem_cons, List.not_mem_nil, or_false] at q0
      rcases q0 with rfl | rfl
      · exact Or.inl (⟨hu.symm.trans q1, fun he hf => by
          have j2 := j.cls h X hL he hf
          subst q2
          exact hq D' τ j2 (fun r0 => absurd (q1.symm.trans r0) (by decide))⟩)
      · exact Or.inr (⟨hu.symm.trans q1, fun he hf => by
          have j2 := j.cls h X hL he hf
          subst q2
          exact hq D' τ j2 (fun r0 => absurd (q1.symm.trans r0) (by decide))⟩)

theorem l_count {a1 a2 a3 : Nat} {arr : Nat → Nat} {D : Nat → Nat → Nat} {σ : St} {S : Ss} {w : MS} {x0 x1 : Int32} {k n : Nat} (j : J a1 a2 a3 arr D σ S w) {r : Nat × Int32} {S' : Ss} (hp : (f_X11_count x0 x1).1 S = some (r, S')) (hk : zN S' 61 ≤ zN S 61 + k) (hn : zN S' 62 ≤ zN S 62 + n) {ρ : Int32} (hc : (r.1 = 0 ∧ ρ = 0) ∨ ∃ c, c ∈ ([(1, 1)] : List (Nat × Int32)) ∧ r.1 = c.1 ∧ ρ = c.2 ∧ ¬ c.1 = 0 ∧ ¬ c.2 = 0) {Q : Int32 → St → Prop} (hq : ∀ D' τ, J a1 a2 a3 arr D' τ S' w → (r.1 = 0 → sA τ a3 (0 : Int32).toNatClampNeg = r.2) → Q ρ τ) : w_L_count k n a1 x0 x1 a3 σ Q := by
  have hL := mle hp
  unfold w_L_count
  refine ⟨k, n, 0, 0, by omega, by omega, q_X11_count j.1 j.2.1 hp hk hn (fun D' τ h X h0 => ?_) (fun D' τ u h X hu h2 => ?_)⟩
  · intro he hf
    have j2 := j.cls h X hL he hf
    have hρ : ρ = 0 := by
      rcases hc with q | ⟨c, -, q1, q2, q3, q4⟩
      · exact q.2
      · exact absurd (q1.symm.trans h0) q3
    subst hρ
    refine ⟨by rw [j2.2.2.2.2]; exact vp01, ?_⟩
    rintro s rfl
    exact hq D' _ (j2.out rfl) (fun _ => by rw [sA_setA, u2_at, if_pos ⟨rfl, rfl⟩])
  · rcases hc with q | ⟨c, q0, q1, q2, q3, q4⟩
    · exact absurd (hu.symm.trans q.1) h2
    · simp only [List.mem_cons, List.not_mem_nil, or_false] at q0
      subst q0
      exact ⟨hu.symm.trans q1, fun he hf => by
          have j2 := j.cls h X hL he hf
          subst q2
          exact hq D' τ j2 (fun r0 => absurd (q1.symm.trans r0) (by decide))⟩

theorem l_find {a1 a2 a3 : Nat} {arr : Nat → Nat} {D : Nat → Nat → Nat} {σ : St} {S : Ss} {w : MS} {x0 x1 x2 : Int32} {k n : Nat} (j : J a1 a2 a3 arr D σ S w) {r : Nat × Int32} {S' : Ss} (hp : (f_X11_find x0 x1 x2).1 S = some (r, S')) (hk : zN S' 61 ≤ zN S 61 + k) (hn : zN S' 62 ≤ zN S 62 + n) {ρ : Int32} (hc : (r.1 = 0 ∧ ρ = 0) ∨ ∃ c, c ∈ ([(1, 1), (2, 2)] : List (Nat × Int32)) ∧ r.1 = c.1 ∧ ρ = c.2 ∧ ¬ c.1 = 0 ∧ ¬ c.2 = 0) {Q : Int32 → St → Prop} (hq : ∀ D' τ, J a1 a2 a3 arr D' τ S' w → (r.1 = 0 → sA τ a3 (0 : Int32).toNatClampNeg = r.2) → Q ρ τ) : w_L_find k n a1 x0 x1 x2 a3 σ Q := by
  have hL := mle hp
  unfold w_L_find
  refine ⟨k, n, 0, 0, by omega, by omega, q_X11_find j.1 j.2.1 hp hk hn (fun D' τ h X h0 => ?_) (fun D' τ u h X hu h2 => ?_)⟩
  · intro he hf
    have j2 := j.cls h X hL he hf
    have hρ : ρ = 0 := by
      rcases hc with q | ⟨c, -, q1, q2, q3, q4⟩
      · exact q.2
      · exact absurd (q1.symm.trans h0) q3
    subst hρ
    refine ⟨by rw [j2.2.2.2.2]; exact vp01, ?_⟩
    rintro s rfl
    exact hq D' _ (j2.out rfl) (fun _ => by rw [sA_setA, u2_at, if_pos ⟨rfl, rfl⟩])
  · rcases hc with q | ⟨c, q0, q1, q2, q3, q4⟩
    · exact absurd (hu.symm.trans q.1) h2
    · simp only [List.mem_cons, List.not_mem_nil, or_false] at q0
      rcases q0 with rfl | rfl
      · exact Or.inl (⟨hu.symm.trans q1, fun he hf => by
          have j2 := j.cls h X hL he hf
          subst q2
          exact hq D' τ j2 (fun r0 => absurd (q1.symm.trans r0) (by decide))⟩)
      · exact Or.inr (⟨hu.symm.trans q1, fun he hf => by
          have j2 := j.cls h X hL he hf
          subst q2
          exact hq D' τ j2 (fun r0 => absurd (q1.symm.trans r0) (by decide))⟩)

theorem l_boxes {a1 a2 a3 : Nat} {arr : Nat → Nat} {D : Nat → Nat → Nat} {σ : St} {S : Ss} {w : MS} {x0 : Int32} {k n : Nat} (j : J a1 a2 a3 arr D σ S w) {r : Nat × Int32} {S' : Ss} (hp : (f_X11_boxes x0).1 S = some (r, S')) (hk : zN S' 61 ≤ zN S 61 + k) (hn : zN S' 62 ≤ zN S 62 + n) {ρ : Int32} (hc : (r.1 = 0 ∧ ρ = 0) ∨ ∃ c, c ∈ ([(1, 1)] : List (Nat × Int32)) ∧ r.1 = c.1 ∧ ρ = c.2 ∧ ¬ c.1 = 0 ∧ ¬ c.2 = 0) {Q : Int32 → St → Prop} (hq : ∀ D' τ, J a1 a2 a3 arr D' τ S' w → (r.1 = 0 → sA τ a3 (0 : Int32).toNatClampNeg = r.2) → Q ρ τ) : w_L_boxes k n a1 x0 a3 σ Q := by
  have hL := mle hp
  unfold w_L_boxes
  refine ⟨k, n, 0, 0, by omega, by omega, q_X11_boxes j.1 j.2.1 hp hk hn (fun D' τ h X h0 => ?_) (fun D' τ u h X hu h2 => ?_)⟩
  · intro he hf
    have j2 := j.cls h X hL he hf
    have hρ : ρ = 0 := by
      rcases hc with q | ⟨c, -, q1, q2, q3, q4⟩
      · exact q.2
      · exact absurd (q1.symm.trans h0) q3
    subst hρ
    refine ⟨by rw [j2.2.2.2.2]; exact vp01, ?_⟩
    rintro s rfl
    exact hq D' _ (j2.out rfl) (fun _ => by rw [sA_setA, u2_at, if_pos ⟨rfl, rfl⟩])
  · rcases hc with q | ⟨c, q0, q1, q2, q3, q4⟩
    · exact absurd (hu.symm.trans q.1) h2
    · simp only [List.mem_cons, List.not_mem_nil, or_false] at q0
      subst q0
      exact ⟨hu.symm.trans q1, fun he hf => by
          have j2 := j.cls h X hL he hf
          subst q2
          exact hq D' τ j2 (fun r0 => absurd (q1.symm.trans r0) (by decide))⟩

theorem l_boxAt {a1 a2 a3 : Nat} {arr : Nat → Nat} {D : Nat → Nat → Nat} {σ : St} {S : Ss} {w : MS} {x0 x1 : Int32} {k n : Nat} (j : J a1 a2 a3 arr D σ S w) {r : Nat × Int32} {S' : Ss} (hp : (f_X11_boxAt x0 x1).1 S = some (r, S')) (hk : zN S' 61 ≤ zN S 61 + k) (hn : zN S' 62 ≤ zN S 62 + n) {ρ : Int32} (hc : (r.1 = 0 ∧ ρ = 0) ∨ ∃ c, c ∈ ([(1, 1)] : List (Nat × Int32)) ∧ r.1 = c.1 ∧ ρ = c.2 ∧ ¬ c.1 = 0 ∧ ¬ c.2 = 0) {Q : Int32 → St → Prop} (hq : ∀ D' τ, J a1 a2 a3 arr D' τ S' w → (r.1 = 0 → sA τ a3 (0 : Int32).toNatClampNeg = r.2) → Q ρ τ) : w_L_boxAt k n a1 x0 x1 a3 σ Q := by
  have hL := mle hp
  unfold w_L_boxAt
  refine ⟨k, n, 0, 0, by omega, by omega, q_X11_boxAt j.1 j.2.1 hp hk hn (fun D' τ h X h0 => ?_) (fun D' τ u h X hu h2 => ?_)⟩
  · intro he hf
    have j2 := j.cls h X hL he hf
    have hρ : ρ = 0 := by
      rcases hc with q | ⟨c, -, q1, q2, q3, q4⟩
      · exact q.2
      · exact absurd (q1.symm.trans h0) q3
    subst hρ
    refine ⟨by rw [j2.2.2.2.2]; exact vp01, ?_⟩
    rintro s rfl
    exact hq D' _ (j2.out rfl) (fun _ => by rw [sA_setA, u2_at, if_pos ⟨rfl, rfl⟩])
  · rcases hc with q | ⟨c, q0, q1, q2, q3, q4⟩
    · exact absurd (hu.symm.trans q.1) h2
    · simp only [List.mem_cons, List.not_mem_nil, or_false] at q0
      subst q0
      exact ⟨hu.symm.trans q1, fun he hf => by
          have j2 := j.cls h X hL he hf
          subst q2
          exact hq D' τ j2 (fun r0 => absurd (q1.symm.trans r0) (by decide))⟩

theorem l_send {a1 a2 a3 : Nat} {arr : Nat → Nat} {D : Nat → Nat → Nat} {σ : St} {S : Ss} {w : MS} {x0 : Int32} {k n : Nat} (j : J a1 a2 a3 arr D σ S w) {r : Nat × Int32} {S' : Ss} (hp : (f_X11_send x0).1 S = some (r, S')) (hk : zN S' 61 ≤ zN S 61 + k) (hn : zN S' 62 ≤ zN S 62 + n) {ρ : Int32} (hc : (r.1 = 0 ∧ ρ = 0) ∨ ∃ c, c ∈ ([(1, 1), (3, 2)] : List (Nat × Int32)) ∧ r.1 = c.1 ∧ ρ = c.2 ∧ ¬ c.1 = 0 ∧ ¬ c.2 = 0) {Q : Int32 → St → Prop} (hq : ∀ D' τ, J a1 a2 a3 arr D' τ S' w → (r.1 = 0 → sA τ a3 (0 : Int32).toNatClampNeg = r.2) → Q ρ τ) : w_L_send k n a1 x0 a3 σ Q := by
  have hL := mle hp
  unfold w_L_send
  refine ⟨k, n, 0, 0, by omega, by omega, q_X11_send j.1 j.2.1 hp hk hn (fun D' τ h X h0 => ?_) (fun D' τ u h X hu h2 => ?_)⟩
  · intro he hf
    have j2 := j.cls h X hL he hf
    have hρ : ρ = 0 := by
      rcases hc with q | ⟨c, -, q1, q2, q3, q4⟩
      · exact q.2
      · exact absurd (q1.symm.trans h0) q3
    subst hρ
    refine ⟨by rw [j2.2.2.2.2]; exact vp01, ?_⟩
    rintro s rfl
    exact hq D' _ (j2.out rfl) (fun _ => by rw [sA_setA, u2_at, if_pos ⟨rfl, rfl⟩])
  · rcases hc with q | ⟨c, q0, q1, q2, q3, q4⟩
    · exact absurd (hu.symm.trans q.1) h2
    · simp only [List.mem_cons, List.not_mem_nil, or_false] at q0
      rcases q0 with rfl | rfl
      · exact Or.inl (⟨hu.symm.trans q1, fun he hf => by
          have j2 := j.cls h X hL he hf
          subst q2
          exact hq D' τ j2 (fun r0 => absurd (q1.symm.trans r0) (by decide))⟩)
      · exact Or.inr (⟨hu.symm.trans q1, fun he hf => by
          have j2 := j.cls h X hL he hf
          subst q2
          exact hq D' τ j2 (fun r0 => absurd (q1.symm.trans r0) (by decide))⟩)

theorem l_sent {a1 a2 a3 : Nat} {arr : Nat → Nat} {D : Nat → Nat → Nat} {σ : St} {S : Ss} {w : MS} {x0 x1 : Int32} {k n : Nat} (j : J a1 a2 a3 arr D σ S w) {r : Nat × Int32} {S' : Ss} (hp : (f_X11_sent x0 x1).1 S = some (r, S')) (hk : zN S' 61 ≤ zN S 61 + k) (hn : zN S' 62 ≤ zN S 62 + n) {ρ : Int32} (hc : (r.1 = 0 ∧ ρ = 0) ∨ ∃ c, c ∈ ([(1, 1)] : List (Nat × Int32)) ∧ r.1 = c.1 ∧ ρ = c.2 ∧ ¬ c.1 = 0 ∧ ¬ c.2 = 0) {Q : Int32 → St → Prop} (hq : ∀ D' τ, J a1 a2 a3 arr D' τ S' w → (r.1 = 0 → sA τ a3 (0 : Int32).toNatClampNeg = r.2) → Q ρ τ) : w_L_sent k n a1 x0 x1 a3 σ Q := by
  have hL := mle hp
  unfold w_L_sent
  refine ⟨k, n, 0, 0, by omega, by omega, q_X11_sent j.1 j.2.1 hp hk hn (fun D' τ h X h0 => ?_) (fun D' τ u h X hu h2 => ?_)⟩
  · intro he hf
    have j2 := j.cls h X hL he hf
    have hρ : ρ = 0 := by
      rcases hc with q | ⟨c, -, q1, q2, q3, q4⟩
      · exact q.2
      · exact absurd (q1.symm.trans h0) q3
    subst hρ
    refine ⟨by rw [j2.2.2.2.2]; exact vp01, ?_⟩
    rintro s rfl
    exact hq D' _ (j2.out rfl) (fun _ => by rw [sA_setA, u2_at, if_pos ⟨rfl, rfl⟩])
  · rcases hc with q | ⟨c, q0, q1, q2, q3, q4⟩
    · exact absurd (hu.symm.trans q.1) h2
    · simp only [List.mem_cons, List.not_mem_nil, or_false] at q0
      subst q0
      exact ⟨hu.symm.trans q1, fun he hf => by
          have j2 := j.cls h X hL he hf
          subst q2
          exact hq D' τ j2 (fun r0 => absurd (q1.symm.trans r0) (by decide))⟩

theorem l_received {a1 a2 a3 : Nat} {arr : Nat → Nat} {D : Nat → Nat → Nat} {σ : St} {S : Ss} {w : MS} {x0 x1 : Int32} {k n : Nat} (j : J a1 a2 a3 arr D σ S w) {r : Nat × Int32} {S' : Ss} (hp : (f_X11_received x0 x1).1 S = some (r, S')) (hk : zN S' 61 ≤ zN S 61 + k) (hn : zN S' 62 ≤ zN S 62 + n) {ρ : Int32} (hc : (r.1 = 0 ∧ ρ = 0) ∨ ∃ c, c ∈ ([(1, 1)] : List (Nat × Int32)) ∧ r.1 = c.1 ∧ ρ = c.2 ∧ ¬ c.1 = 0 ∧ ¬ c.2 = 0) {Q : Int32 → St → Prop} (hq : ∀ D' τ, J a1 a2 a3 arr D' τ S' w → (r.1 = 0 → sA τ a3 (0 : Int32).toNatClampNeg = r.2) → Q ρ τ) : w_L_received k n a1 x0 x1 a3 σ Q := by
  have hL := mle hp
  unfold w_L_received
  refine ⟨k, n, 0, 0, by omega, by omega, q_X11_received j.1 j.2.1 hp hk hn (fun D' τ h X h0 => ?_) (fun D' τ u h X hu h2 => ?_)⟩
  · intro he hf
    have j2 := j.cls h X hL he hf
    have hρ : ρ = 0 := by
      rcases hc with q | ⟨c, -, q1, q2, q3, q4⟩
      · exact q.2
      · exact absurd (q1.symm.trans h0) q3
    subst hρ
    refine ⟨by rw [j2.2.2.2.2]; exact vp01, ?_⟩
    rintro s rfl
    exact hq D' _ (j2.out rfl) (fun _ => by rw [sA_setA, u2_at, if_pos ⟨rfl, rfl⟩])
  · rcases hc with q | ⟨c, q0, q1, q2, q3, q4⟩
    · exact absurd (hu.symm.trans q.1) h2
    · simp only [List.mem_cons, List.not_mem_nil, or_false] at q0
      subst q0
      exact ⟨hu.symm.trans q1, fun he hf => by
          have j2 := j.cls h X hL he hf
          subst q2
          exact hq D' τ j2 (fun r0 => absurd (q1.symm.trans r0) (by decide))⟩

theorem l_comeBack {a1 a2 a3 : Nat} {arr : Nat → Nat} {D : Nat → Nat → Nat} {σ : St} {S : Ss} {w : MS} {x0 x1 x2 : Int32} {k n : Nat} (j : J a1 a2 a3 arr D σ S w) {r : Nat × Int32} {S' : Ss} (hp : (f_X11_comeBack x0 x1 x2).1 S = some (r, S')) (hk : zN S' 61 ≤ zN S 61 + k) (hn : zN S' 62 ≤ zN S 62 + n) {ρ : Int32} (hc : (r.1 = 0 ∧ ρ = 0) ∨ ∃ c, c ∈ ([(1, 1), (2, 2), (3, 3)] : List (Nat × Int32)) ∧ r.1 = c.1 ∧ ρ = c.2 ∧ ¬ c.1 = 0 ∧ ¬ c.2 = 0) {Q : Int32 → St → Prop} (hq : ∀ D' τ, J a1 a2 a3 arr D' τ S' w → (r.1 = 0 → sA τ a3 (0 : Int32).toNatClampNeg = r.2) → Q ρ τ) : w_L_comeBack k n a1 x0 x1 x2 a3 σ Q := by
  have hL := mle hp
  unfold w_L_comeBack
  refine ⟨k, n, 0, 0, by omega, by omega, q_X11_comeBack j.1 j.2.1 hp hk hn (fun D' τ h X h0 => ?_) (fun D' τ u h X hu h2 => ?_)⟩
  · intro he hf
    have j2 := j.cls h X hL he hf
    have hρ : ρ = 0 := by
      rcases hc with q | ⟨c, -, q1, q2, q3, q4⟩
      · exact q.2
      · exact absurd (q1.symm.trans h0) q3
    subst hρ
    refine ⟨by rw [j2.2.2.2.2]; exact vp01, ?_⟩
    rintro s rfl
    exact hq D' _ (j2.out rfl) (fun _ => by rw [sA_setA, u2_at, if_pos ⟨rfl, rfl⟩])
  · rcases hc with q | ⟨c, q0, q1, q2, q3, q4⟩
    · exact absurd (hu.symm.trans q.1) h2
    · simp only [List.mem_cons, List.not_mem_nil, or_false] at q0
      rcases q0 with rfl | rfl | rfl
      · exact Or.inl (⟨hu.symm.trans q1, fun he hf => by
          have j2 := j.cls h X hL he hf
          subst q2
          exact hq D' τ j2 (fun r0 => absurd (q1.symm.trans r0) (by decide))⟩)
      · exact Or.inr (Or.inl (⟨hu.symm.trans q1, fun he hf => by
          have j2 := j.cls h X hL he hf
          subst q2
          exact hq D' τ j2 (fun r0 => absurd (q1.symm.trans r0) (by decide))⟩))
      · exact Or.inr (Or.inr (⟨hu.symm.trans q1, fun he hf => by
          have j2 := j.cls h X hL he hf
          subst q2
          exact hq D' τ j2 (fun r0 => absurd (q1.symm.trans r0) (by decide))⟩))

theorem l_judge {a1 a2 a3 : Nat} {arr : Nat → Nat} {D : Nat → Nat → Nat} {σ : St} {S : Ss} {w : MS} {x0 x1 x2 : Int32} {k n : Nat} (j : J a1 a2 a3 arr D σ S w) {r : Nat × Int32} {S' : Ss} (hp : (f_X11_judge x0 x1 x2).1 S = some (r, S')) (hk : zN S' 61 ≤ zN S 61 + k) (hn : zN S' 62 ≤ zN S 62 + n) {ρ : Int32} (hc : (r.1 = 0 ∧ ρ = 0) ∨ ∃ c, c ∈ ([(1, 1), (2, 2), (3, 3)] : List (Nat × Int32)) ∧ r.1 = c.1 ∧ ρ = c.2 ∧ ¬ c.1 = 0 ∧ ¬ c.2 = 0) {Q : Int32 → St → Prop} (hq : ∀ D' τ, J a1 a2 a3 arr D' τ S' w → (r.1 = 0 → sA τ a3 (0 : Int32).toNatClampNeg = r.2) → Q ρ τ) : w_L_judge k n a1 x0 x1 x2 a3 σ Q := by
  have hL := mle hp
  unfold w_L_judge
  refine ⟨k, n, 0, 0, by omega, by omega, q_X11_judge j.1 j.2.1 hp hk hn (fun D' τ h X h0 => ?_) (fun D' τ u h X hu h2 => ?_)⟩
  · intro he hf
    have j2 := j.cls h X hL he hf
    have hρ : ρ = 0 := by
      rcases hc with q | ⟨c, -, q1, q2, q3, q4⟩
      · exact q.2
      · exact absurd (q1.symm.trans h0) q3
    subst hρ
    refine ⟨by rw [j2.2.2.2.2]; exact vp01, ?_⟩
    rintro s rfl
    exact hq D' _ (j2.out rfl) (fun _ => by rw [sA_setA, u2_at, if_pos ⟨rfl, rfl⟩])
  · rcases hc with q | ⟨c, q0, q1, q2, q3, q4⟩
    · exact absurd (hu.symm.trans q.1) h2
    · simp only [List.mem_cons, List.not_mem_nil, or_false] at q0
      rcases q0 with rfl | rfl | rfl
      · exact Or.inl (⟨hu.symm.trans q1, fun he hf => by
          have j2 := j.cls h X hL he hf
          subst q2
          exact hq D' τ j2 (fun r0 => absurd (q1.symm.trans r0) (by decide))⟩)
      · exact Or.inr (Or.inl (⟨hu.symm.trans q1, fun he hf => by
          have j2 := j.cls h X hL he hf
          subst q2
          exact hq D' τ j2 (fun r0 => absurd (q1.symm.trans r0) (by decide))⟩))
      · exact Or.inr (Or.inr (⟨hu.symm.trans q1, fun he hf => by
          have j2 := j.cls h X hL he hf
          subst q2
          exact hq D' τ j2 (fun r0 => absurd (q1.symm.trans r0) (by decide))⟩))

theorem l_recall {a1 a2 a3 : Nat} {arr : Nat → Nat} {D : Nat → Nat → Nat} {σ : St} {S : Ss} {w : MS} {x0 : Int32} {k n : Nat} (j : J a1 a2 a3 arr D σ S w) {r : Nat × Int32} {S' : Ss} (hp : (f_X11_recall x0).1 S = some (r, S')) (hk : zN S' 61 ≤ zN S 61 + k) (hn : zN S' 62 ≤ zN S 62 + n) {ρ : Int32} (hc : (r.1 = 0 ∧ ρ = 0) ∨ ∃ c, c ∈ ([(1, 1), (3, 2)] : List (Nat × Int32)) ∧ r.1 = c.1 ∧ ρ = c.2 ∧ ¬ c.1 = 0 ∧ ¬ c.2 = 0) {Q : Int32 → St → Prop} (hq : ∀ D' τ, J a1 a2 a3 arr D' τ S' w → (r.1 = 0 → sA τ a3 (0 : Int32).toNatClampNeg = r.2) → Q ρ τ) : w_L_recall k n a1 x0 a3 σ Q := by
  have hL := mle hp
  unfold w_L_recall
  refine ⟨k, n, 0, 0, by omega, by omega, q_X11_recall j.1 j.2.1 hp hk hn (fun D' τ h X h0 => ?_) (fun D' τ u h X hu h2 => ?_)⟩
  · intro he hf
    have j2 := j.cls h X hL he hf
    have hρ : ρ = 0 := by
      rcases hc with q | ⟨c, -, q1, q2, q3, q4⟩
      · exact q.2
      · exact absurd (q1.symm.trans h0) q3
    subst hρ
    refine ⟨by rw [j2.2.2.2.2]; exact vp01, ?_⟩
    rintro s rfl
    exact hq D' _ (j2.out rfl) (fun _ => by rw [sA_setA, u2_at, if_pos ⟨rfl, rfl⟩])
  · rcases hc with q | ⟨c, q0, q1, q2, q3, q4⟩
    · exact absurd (hu.symm.trans q.1) h2
    · simp only [List.mem_cons, List.not_mem_nil, or_false] at q0
      rcases q0 with rfl | rfl
      · exact Or.inl (⟨hu.symm.trans q1, fun he hf => by
          have j2 := j.cls h X hL he hf
          subst q2
          exact hq D' τ j2 (fun r0 => absurd (q1.symm.trans r0) (by decide))⟩)
      · exact Or.inr (⟨hu.symm.trans q1, fun he hf => by
          have j2 := j.cls h X hL he hf
          subst q2
          exact hq D' τ j2 (fun r0 => absurd (q1.symm.trans r0) (by decide))⟩)

theorem e_0 {G : Nat → Ss → MS → Prop} (hG : GB G) {L m : Nat} {xs : Nat → Int32} {K23 : Nat → Nat → Nat → Int32 → St → Nat → Nat → Prop} {a1 a2 a3 : Nat} {arr : Nat → Nat} {D : Nat → Nat → Nat} {σ : St} {S : Ss} {w : MS} {k n : Nat} (hi : 7 * m + 7 ≤ L) (hL : L ≤ 3584) (st : STv G m S w (f_X11_slot (xs (nI (7 * m) + 1).toNatClampNeg) (xs (nI (7 * m) + 2).toNatClampNeg) (xs (nI (7 * m) + 3).toNatClampNeg)) (g_X12_slot (xs (nI (7 * m) + 1).toNatClampNeg) (xs (nI (7 * m) + 2).toNatClampNeg) (xs (nI (7 * m) + 3).toNatClampNeg)) [(1, 1), (2, 2), (3, 3)]) (j : J a1 a2 a3 arr D σ S w) (hr : RM S k n) (hK : ∀ D' τ S' w' k' n', J a1 a2 a3 arr D' τ S' w' → G (m + 1) S' w' → RM S' k' n' → K23 a1 a2 a3 (nI (7 * m) + 7) τ k' n') : w_L_law_216 L xs K23 a1 a2 a3 (nI (7 * m)) σ k n := by
  obtain ⟨r, S', r', w', e1, e2, g1, hc⟩ := st
  have b := hG _ _ _ g1
  have hZ := mle e1
  obtain ⟨k1, n1, k2, n2, f1, f2, f3, f4, f5⟩ := rm_split hr hZ b
  have v1 : vp_in (nI (7 * m) + 1) L := vpi hi hL 1 (by decide) rfl
  have v2 : vp_in (nI (7 * m) + 2) L := vpi hi hL 2 (by decide) rfl
  have v3 : vp_in (nI (7 * m) + 3) L := vpi hi hL 3 (by decide) rfl
  unfold w_L_law_216
  refine ⟨v1, v2, v3, k1, n1, k2, n2, f1, f2, l_slot j e1 f3 f4 (ρ := mI w' 0) (by
    rcases hc with q | q
    · exact Or.inl ⟨q.1, q.2⟩
    · exact Or.inr q) (fun D' τ j1 => ?_)⟩
  intro _ _
  refine ⟨v1, v2, v3, gq_X12_slot j1.2.2.1.1 (by rw [j1.2.2.1.2.1]; exact e2) (fun s hR hw => ?_)⟩
  intro he hf
  have j2 := j1.mod hR hw he hf
  unfold w_X12_thrown
  rw [j2.thr]
  intro _ _
  exact ⟨fun _ => hK _ _ _ _ _ _ j2 g1 f5, fun q => q rfl⟩

theorem e_1 {G : Nat → Ss → MS → Prop} (hG : GB G) {L m : Nat} {xs : Nat → Int32} {K23 : Nat → Nat → Nat → Int32 → St → Nat → Nat → Prop} {a1 a2 a3 : Nat} {arr : Nat → Nat} {D : Nat → Nat → Nat} {σ : St} {S : Ss} {w : MS} {k n : Nat} (hi : 7 * m + 7 ≤ L) (hL : L ≤ 3584) (st : STv G m S w (f_X11_face (xs (nI (7 * m) + 1).toNatClampNeg) (xs (nI (7 * m) + 2).toNatClampNeg) (xs (nI (7 * m) + 3).toNatClampNeg) (xs (nI (7 * m) + 4).toNatClampNeg)) (g_X12_face (xs (nI (7 * m) + 1).toNatClampNeg) (xs (nI (7 * m) + 2).toNatClampNeg) (xs (nI (7 * m) + 3).toNatClampNeg) (xs (nI (7 * m) + 4).toNatClampNeg)) [(1, 1), (2, 2), (3, 3)]) (j : J a1 a2 a3 arr D σ S w) (hr : RM S k n) (hK : ∀ D' τ S' w' k' n', J a1 a2 a3 arr D' τ S' w' → G (m + 1) S' w' → RM S' k' n' → K23 a1 a2 a3 (nI (7 * m) + 7) τ k' n') : w_L_law_276 L xs K23 a1 a2 a3 (nI (7 * m)) σ k n := by
  obtain ⟨r, S', r', w', e1, e2, g1, hc⟩ := st
  have b := hG _ _ _ g1
  have hZ := mle e1
  obtain ⟨k1, n1, k2, n2, f1, f2, f3, f4, f5⟩ := rm_split hr hZ b
  have v1 : vp_in (nI (7 * m) + 1) L := vpi hi hL 1 (by decide) rfl
  have v2 : vp_in (nI (7 * m) + 2) L := vpi hi hL 2 (by decide) rfl
  have v3 : vp_in (nI (7 * m) + 3) L := vpi hi hL 3 (by decide) rfl
  have v4 : vp_in (nI (7 * m) + 4) L := vpi hi hL 4 (by decide) rfl
  unfold w_L_law_276
  refine ⟨v1, v2, v3, v4, k1, n1, k2, n2, f1, f2, l_face j e1 f3 f4 (ρ := mI w' 0) (by
    rcases hc with q | q
    · exact Or.inl ⟨q.1, q.2⟩
    · exact Or.inr q) (fun D' τ j1 => ?_)⟩
  intro _ _
  refine ⟨v1, v2, v3, v4, gq_X12_face j1.2.2.1.1 (by rw [j1.2.2.1.2.1]; exact e2) (fun s hR hw => ?_)⟩
  intro he hf
  have j2 := j1.mod hR hw he hf
  unfold w_X12_thrown
  rw [j2.thr]
  intro _ _
  exact ⟨fun _ => hK _ _ _ _ _ _ j2 g1 f5, fun q => q rfl⟩

theorem e_2 {G : Nat → Ss → MS → Prop} (hG : GB G) {L m : Nat} {xs : Nat → Int32} {K23 : Nat → Nat → Nat → Int32 → St → Nat → Nat → Prop} {a1 a2 a3 : Nat} {arr : Nat → Nat} {D : Nat → Nat → Nat} {σ : St} {S : Ss} {w : MS} {k n : Nat} (hi : 7 * m + 7 ≤ L) (hL : L ≤ 3584) (st : STv G m S w (f_X11_item (xs (nI (7 * m) + 1).toNatClampNeg) (xs (nI (7 * m) + 2).toNatClampNeg) (xs (nI (7 * m) + 3).toNatClampNeg) (xs (nI (7 * m) + 4).toNatClampNeg) (xs (nI (7 * m) + 5).toNatClampNeg) (xs (nI (7 * m) + 6).toNatClampNeg)) (g_X12_item (xs (nI (7 * m) + 1).toNatClampNeg) (xs (nI (7 * m) + 2).toNatClampNeg) (xs (nI (7 * m) + 3).toNatClampNeg) (xs (nI (7 * m) + 4).toNatClampNeg) (xs (nI (7 * m) + 5).toNatClampNeg) (xs (nI (7 * m) + 6).toNatClampNeg)) [(1, 1), (2, 2), (3, 3)]) (j : J a1 a2 a3 arr D σ S w) (hr : RM S k n) (hK : ∀ D' τ S' w' k' n', J a1 a2 a3 arr D' τ S' w' → G (m + 1) S' w' → RM S' k' n' → K23 a1 a2 a3 (nI (7 * m) + 7) τ k' n') : w_L_law_348 L xs K23 a1 a2 a3 (nI (7 * m)) σ k n := by
  obtain ⟨r, S', r', w', e1, e2, g1, hc⟩ := st
  have b := hG _ _ _ g1
  have hZ := mle e1
  obtain ⟨k1, n1, k2, n2, f1, f2, f3, f4, f5⟩ := rm_split hr hZ b
  have v1 : vp_in (nI (7 * m) + 1) L := vpi hi hL 1 (by decide) rfl
  have v2 : vp_in (nI (7 * m) + 2) L := vpi hi hL 2 (by decide) rfl
  have v3 : vp_in (nI (7 * m) + 3) L := vpi hi hL 3 (by decide) rfl
  have v4 : vp_in (nI (7 * m) + 4) L := vpi hi hL 4 (by decide) rfl
  have v5 : vp_in (nI (7 * m) + 5) L := vpi hi hL 5 (by decide) rfl
  have v6 : vp_in (nI (7 * m) + 6) L := vpi hi hL 6 (by decide) rfl
  unfold w_L_law_348
  refine ⟨v1, v2, v3, v4, v5, v6, k1, n1, k2, n2, f1, f2, l_item j e1 f3 f4 (ρ := mI w' 0) (by
    rcases hc with q | q
    · exact Or.inl ⟨q.1, q.2⟩
    · exact Or.inr q) (fun D' τ j1 => ?_)⟩
  intro _ _
  refine ⟨v1, v2, v3, v4, v5, v6, gq_X12_item j1.2.2.1.1 (by rw [j1.2.2.1.2.1]; exact e2) (fun s hR hw => ?_)⟩
  intro he hf
  have j2 := j1.mod hR hw he hf
  unfold w_X12_thrown
  rw [j2.thr]
  intro _ _
  exact ⟨fun _ => hK _ _ _ _ _ _ j2 g1 f5, fun q => q rfl⟩

theorem e_3 {G : Nat → Ss → MS → Prop} (hG : GB G) {L m : Nat} {xs : Nat → Int32} {K23 : Nat → Nat → Nat → Int32 → St → Nat → Nat → Prop} {a1 a2 a3 : Nat} {arr : Nat → Nat} {D : Nat → Nat → Nat} {σ : St} {S : Ss} {w : MS} {k n : Nat} (hi : 7 * m + 7 ≤ L) (hL : L ≤ 3584) (st0 : (xs (nI (7 * m) + 3).toNatClampNeg) = 0 → STi G m S w (f_X11_bar (xs (nI (7 * m) + 1).toNatClampNeg) (xs (nI (7 * m) + 2).toNatClampNeg) 0) (g_X12_bar (xs (nI (7 * m) + 1).toNatClampNeg) (xs (nI (7 * m) + 2).toNatClampNeg) 0) [(1, 1)]) (st1 : ¬ (xs (nI (7 * m) + 3).toNatClampNeg) = 0 → STi G m S w (f_X11_bar (xs (nI (7 * m) + 1).toNatClampNeg) (xs (nI (7 * m) + 2).toNatClampNeg) 1) (g_X12_bar (xs (nI (7 * m) + 1).toNatClampNeg) (xs (nI (7 * m) + 2).toNatClampNeg) 1) [(1, 1)]) (j : J a1 a2 a3 arr D σ S w) (hr : RM S k n) (hK : ∀ D' τ S' w' k' n', J a1 a2 a3 arr D' τ S' w' → G (m + 1) S' w' → RM S' k' n' → K23 a1 a2 a3 (nI (7 * m) + 7) τ k' n') : w_L_law_446 L xs K23 a1 a2 a3 (nI (7 * m)) σ k n := by
  have v1 : vp_in (nI (7 * m) + 1) L := vpi hi hL 1 (by decide) rfl
  have v2 : vp_in (nI (7 * m) + 2) L := vpi hi hL 2 (by decide) rfl
  have v3 : vp_in (nI (7 * m) + 3) L := vpi hi hL 3 (by decide) rfl
  unfold w_L_law_446
  refine ⟨v1, v2, v3, fun z => ?_, fun z => ?_⟩
  · obtain ⟨r, S', r', w', e1, e2, g1, hc⟩ := st0 z
    have b := hG _ _ _ g1
    have hZ := mle e1
    obtain ⟨k1, n1, k2, n2, f1, f2, f3, f4, f5⟩ := rm_split hr hZ b
    unfold w_L_law_473
    refine ⟨k1, n1, k2, n2, f1, f2, l_bar j e1 f3 f4 (ρ := mI w' 0) (by
      rcases hc with q | q
      · exact Or.inl ⟨q.1, q.2.1⟩
      · exact Or.inr q) (fun D' τ j1 ho => ?_)⟩
    intro _ _
    refine ⟨v1, v2, v3, fun _ => ?_, fun q => absurd z q⟩
    unfold w_L_law_506
    refine  gq_X12_bar j1.2.2.1.1 (by rw [j1.2.2.1.2.1]; exact e2) (fun s hR hw => ?_)
    intro he hf
    have j2 := j1.mod hR hw he hf
    unfold w_X12_thrown
    rw [j2.thr]
    intro _ _
    refine ⟨fun _ => ⟨fun _ => hK _ _ _ _ _ _ j2 g1 f5, fun z0 => ?_⟩, fun q => q rfl⟩
    have h0 : r.1 = 0 ∧ r.2 = r' := by
      rcases hc with q | ⟨c, -, q1, q2, q3, q4⟩
      · exact ⟨q.1, q.2.2⟩
      · exact absurd (q2.symm.trans z0) q4
    rw [j1.mout hf, ho h0.1, h0.2]
    refine ⟨by rw [j2.2.2.2.2]; exact vp01, fun c => ?_, fun c => ?_⟩
    · unfold w_L_law_540
      rw [if_pos c, jc_rf]
      exact ⟨fun _ => hK _ _ _ _ _ _ j2 g1 f5, fun q => q rfl⟩
    · unfold w_L_law_540
      rw [if_neg c, jc_rf]
      exact ⟨fun _ => hK _ _ _ _ _ _ j2 g1 f5, fun q => q rfl⟩
  · obtain ⟨r, S', r', w', e1, e2, g1, hc⟩ := st1 z
    have b := hG _ _ _ g1
    have hZ := mle e1
    obtain ⟨k1, n1, k2, n2, f1, f2, f3, f4, f5⟩ := rm_split hr hZ b
    unfold w_L_law_473
    refine ⟨k1, n1, k2, n2, f1, f2, l_bar j e1 f3 f4 (ρ := mI w' 0) (by
      rcases hc with q | q
      · exact Or.inl ⟨q.1, q.2.1⟩
      · exact Or.inr q) (fun D' τ j1 ho => ?_)⟩
    intro _ _
    refine ⟨v1, v2, v3, fun q => absurd q z, fun _ => ?_⟩
    unfold w_L_law_506
    refine  gq_X12_bar j1.2.2.1.1 (by rw [j1.2.2.1.2.1]; exact e2) (fun s hR hw => ?_)
    intro he hf
    have j2 := j1.mod hR hw he hf
    unfold w_X12_thrown
    rw [j2.thr]
    intro _ _
    refine ⟨fun _ => ⟨fun _ => hK _ _ _ _ _ _ j2 g1 f5, fun z0 => ?_⟩, fun q => q rfl⟩
    have h0 : r.1 = 0 ∧ r.2 = r' := by
      rcases hc with q | ⟨c, -, q1, q2, q3, q4⟩
      · exact ⟨q.1, q.2.2⟩
      · exact absurd (q2.symm.trans z0) q4
    rw [j1.mout hf, ho h0.1, h0.2]
    refine ⟨by rw [j2.2.2.2.2]; exact vp01, fun c => ?_, fun c => ?_⟩
    · unfold w_L_law_540
      rw [if_pos c, jc_rf]
      exact ⟨fun _ => hK _ _ _ _ _ _ j2 g1 f5, fun q => q rfl⟩
    · unfold w_L_law_540
      rw [if_neg c, jc_rf]
      exact ⟨fun _ => hK _ _ _ _ _ _ j2 g1 f5, fun q => q rfl⟩

theorem e_4 {G : Nat → Ss → MS → Prop} (hG : GB G) {L m : Nat} {xs : Nat → Int32} {K23 : Nat → Nat → Nat → Int32 → St → Nat → Nat → Prop} {a1 a2 a3 : Nat} {arr : Nat → Nat} {D : Nat → Nat → Nat} {σ : St} {S : Ss} {w : MS} {k n : Nat} (hi : 7 * m + 7 ≤ L) (hL : L ≤ 3584) (st : STi G m S w (f_X11_lot (xs (nI (7 * m) + 1).toNatClampNeg) (xs (nI (7 * m) + 2).toNatClampNeg)) (g_X12_lot (xs (nI (7 * m) + 1).toNatClampNeg) (xs (nI (7 * m) + 2).toNatClampNeg)) [(1, 1), (2, 2), (3, 3)]) (j : J a1 a2 a3 arr D σ S w) (hr : RM S k n) (hK : ∀ D' τ S' w' k' n', J a1 a2 a3 arr D' τ S' w' → G (m + 1) S' w' → RM S' k' n' → K23 a1 a2 a3 (nI (7 * m) + 7) τ k' n') : w_L_law_549 L xs K23 a1 a2 a3 (nI (7 * m)) σ k n := by
  obtain ⟨r, S', r', w', e1, e2, g1, hc⟩ := st
  have b := hG _ _ _ g1
  have hZ := mle e1
  obtain ⟨k1, n1, k2, n2, f1, f2, f3, f4, f5⟩ := rm_split hr hZ b
  have v1 : vp_in (nI (7 * m) + 1) L := vpi hi hL 1 (by decide) rfl
  have v2 : vp_in (nI (7 * m) + 2) L := vpi hi hL 2 (by decide) rfl
  unfold w_L_law_549
  refine ⟨v1, v2, k1, n1, k2, n2, f1, f2, l_lot j e1 f3 f4 (ρ := mI w' 0) (by
    rcases hc with q | q
    · exact Or.inl ⟨q.1, q.2.1⟩
    · exact Or.inr q) (fun D' τ j1 ho => ?_)⟩
  intro _ _
  refine ⟨v1, v2, gq_X12_lot j1.2.2.1.1 (by rw [j1.2.2.1.2.1]; exact e2) (fun s hR hw => ?_)⟩
  intro he hf
  have j2 := j1.mod hR hw he hf
  unfold w_X12_thrown
  rw [j2.thr]
  intro _ _
  refine ⟨fun _ => ⟨fun _ => hK _ _ _ _ _ _ j2 g1 f5, fun z => ?_⟩, fun q => q rfl⟩
  have h0 : r.1 = 0 ∧ r.2 = r' := by
    rcases hc with q | ⟨c, -, q1, q2, q3, q4⟩
    · exact ⟨q.1, q.2.2⟩
    · exact absurd (q2.symm.trans z) q4
  rw [j1.mout hf, ho h0.1, h0.2, jc_rf]
  exact ⟨by rw [j2.2.2.2.2]; exact vp01, fun _ => hK _ _ _ _ _ _ j2 g1 f5, fun q => q rfl⟩

theorem e_5 {G : Nat → Ss → MS → Prop} (hG : GB G) {L m : Nat} {xs : Nat → Int32} {K23 : Nat → Nat → Nat → Int32 → St → Nat → Nat → Prop} {a1 a2 a3 : Nat} {arr : Nat → Nat} {D : Nat → Nat → Nat} {σ : St} {S : Ss} {w : MS} {k n : Nat} (hi : 7 * m + 7 ≤ L) (hL : L ≤ 3584) (st : STi G m S w (f_X11_stock (xs (nI (7 * m) + 1).toNatClampNeg) (xs (nI (7 * m) + 2).toNatClampNeg)) (g_X12_stock (xs (nI (7 * m) + 1).toNatClampNeg) (xs (nI (7 * m) + 2).toNatClampNeg)) [(1, 1)]) (j : J a1 a2 a3 arr D σ S w) (hr : RM S k n) (hK : ∀ D' τ S' w' k' n', J a1 a2 a3 arr D' τ S' w' → G (m + 1) S' w' → RM S' k' n' → K23 a1 a2 a3 (nI (7 * m) + 7) τ k' n') : w_L_law_617 L xs K23 a1 a2 a3 (nI (7 * m)) σ k n := by
  obtain ⟨r, S', r', w', e1, e2, g1, hc⟩ := st
  have b := hG _ _ _ g1
  have hZ := mle e1
  obtain ⟨k1, n1, k2, n2, f1, f2, f3, f4, f5⟩ := rm_split hr hZ b
  have v1 : vp_in (nI (7 * m) + 1) L := vpi hi hL 1 (by decide) rfl
  have v2 : vp_in (nI (7 * m) + 2) L := vpi hi hL 2 (by decide) rfl
  unfold w_L_law_617
  refine ⟨v1, v2, k1, n1, k2, n2, f1, f2, l_stock j e1 f3 f4 (ρ := mI w' 0) (by
    rcases hc with q | q
    · exact Or.inl ⟨q.1, q.2.1⟩
    · exact Or.inr q) (fun D' τ j1 ho => ?_)⟩
  intro _ _
  refine ⟨v1, v2, gq_X12_stock j1.2.2.1.1 (by rw [j1.2.2.1.2.1]; exact e2) (fun s hR hw => ?_)⟩
  intro he hf
  have j2 := j1.mod hR hw he hf
  unfold w_X12_thrown
  rw [j2.thr]
  intro _ _
  refine ⟨fun _ => ⟨fun _ => hK _ _ _ _ _ _ j2 g1 f5, fun z => ?_⟩, fun q => q rfl⟩
  have h0 : r.1 = 0 ∧ r.2 = r' := by
    rcases hc with q | ⟨c, -, q1, q2, q3, q4⟩
    · exact ⟨q.1, q.2.2⟩
    · exact absurd (q2.symm.trans z) q4
  rw [j1.mout hf, ho h0.1, h0.2, jc_rf]
  exact ⟨by rw [j2.2.2.2.2]; exact vp01, fun _ => hK _ _ _ _ _ _ j2 g1 f5, fun q => q rfl⟩

theorem e_6 {G : Nat → Ss → MS → Prop} (hG : GB G) {L m : Nat} {xs : Nat → Int32} {K23 : Nat → Nat → Nat → Int32 → St → Nat → Nat → Prop} {a1 a2 a3 : Nat} {arr : Nat → Nat} {D : Nat → Nat → Nat} {σ : St} {S : Ss} {w : MS} {k n : Nat} (hi : 7 * m + 7 ≤ L) (hL : L ≤ 3584) (st : STi G m S w (f_X11_stockAnew (xs (nI (7 * m) + 1).toNatClampNeg) (xs (nI (7 * m) + 2).toNatClampNeg)) (g_X12_stockAnew (xs (nI (7 * m) + 1).toNatClampNeg) (xs (nI (7 * m) + 2).toNatClampNeg)) [(1, 1)]) (j : J a1 a2 a3 arr D σ S w) (hr : RM S k n) (hK : ∀ D' τ S' w' k' n', J a1 a2 a3 arr D' τ S' w' → G (m + 1) S' w' → RM S' k' n' → K23 a1 a2 a3 (nI (7 * m) + 7) τ k' n') : w_L_law_685 L xs K23 a1 a2 a3 (nI (7 * m)) σ k n := by
  obtain ⟨r, S', r', w', e1, e2, g1, hc⟩ := st
  have b := hG _ _ _ g1
  have hZ := mle e1
  obtain ⟨k1, n1, k2, n2, f1, f2, f3, f4, f5⟩ := rm_split hr hZ b
  have v1 : vp_in (nI (7 * m) + 1) L := vpi hi hL 1 (by decide) rfl
  have v2 : vp_in (nI (7 * m) + 2) L := vpi hi hL 2 (by decide) rfl
  unfold w_L_law_685
  refine ⟨v1, v2, k1, n1, k2, n2, f1, f2, l_stockAnew j e1 f3 f4 (ρ := mI w' 0) (by
    rcases hc with q | q
    · exact Or.inl ⟨q.1, q.2.1⟩
    · exact Or.inr q) (fun D' τ j1 ho => ?_)⟩
  intro _ _
  refine ⟨v1, v2, gq_X12_stockAnew j1.2.2.1.1 (by rw [j1.2.2.1.2.1]; exact e2) (fun s hR hw => ?_)⟩
  intro he hf
  have j2 := j1.mod hR hw he hf
  unfold w_X12_thrown
  rw [j2.thr]
  intro _ _
  refine ⟨fun _ => ⟨fun _ => hK _ _ _ _ _ _ j2 g1 f5, fun z => ?_⟩, fun q => q rfl⟩
  have h0 : r.1 = 0 ∧ r.2 = r' := by
    rcases hc with q | ⟨c, -, q1, q2, q3, q4⟩
    · exact ⟨q.1, q.2.2⟩
    · exact absurd (q2.symm.trans z) q4
  rw [j1.mout hf, ho h0.1, h0.2, jc_rf]
  exact ⟨by rw [j2.2.2.2.2]; exact vp01, fun _ => hK _ _ _ _ _ _ j2 g1 f5, fun q => q rfl⟩

theorem e_7 {G : Nat → Ss → MS → Prop} (hG : GB G) {L m : Nat} {xs : Nat → Int32} {K23 : Nat → Nat → Nat → Int32 → St → Nat → Nat → Prop} {a1 a2 a3 : Nat} {arr : Nat → Nat} {D : Nat → Nat → Nat} {σ : St} {S : Ss} {w : MS} {k n : Nat} (hi : 7 * m + 7 ≤ L) (hL : L ≤ 3584) (st : STi G m S w (f_X11_free (xs (nI (7 * m) + 1).toNatClampNeg) (xs (nI (7 * m) + 2).toNatClampNeg)) (g_X12_free (xs (nI (7 * m) + 1).toNatClampNeg) (xs (nI (7 * m) + 2).toNatClampNeg)) [(1, 1)]) (j : J a1 a2 a3 arr D σ S w) (hr : RM S k n) (hK : ∀ D' τ S' w' k' n', J a1 a2 a3 arr D' τ S' w' → G (m + 1) S' w' → RM S' k' n' → K23 a1 a2 a3 (nI (7 * m) + 7) τ k' n') : w_L_law_753 L xs K23 a1 a2 a3 (nI (7 * m)) σ k n := by
  obtain ⟨r, S', r', w', e1, e2, g1, hc⟩ := st
  have b := hG _ _ _ g1
  have hZ := mle e1
  obtain ⟨k1, n1, k2, n2, f1, f2, f3, f4, f5⟩ := rm_split hr hZ b
  have v1 : vp_in (nI (7 * m) + 1) L := vpi hi hL 1 (by decide) rfl
  have v2 : vp_in (nI (7 * m) + 2) L := vpi hi hL 2 (by decide) rfl
  unfold w_L_law_753
  refine ⟨v1, v2, k1, n1, k2, n2, f1, f2, l_free j e1 f3 f4 (ρ := mI w' 0) (by
    rcases hc with q | q
    · exact Or.inl ⟨q.1, q.2.1⟩
    · exact Or.inr q) (fun D' τ j1 ho => ?_)⟩
  intro _ _
  refine ⟨v1, v2, gq_X12_free j1.2.2.1.1 (by rw [j1.2.2.1.2.1]; exact e2) (fun s hR hw => ?_)⟩
  intro he hf
  have j2 := j1.mod hR hw he hf
  unfold w_X12_thrown
  rw [j2.thr]
  intro _ _
  refine ⟨fun _ => ⟨fun _ => hK _ _ _ _ _ _ j2 g1 f5, fun z => ?_⟩, fun q => q rfl⟩
  have h0 : r.1 = 0 ∧ r.2 = r' := by
    rcases hc with q | ⟨c, -, q1, q2, q3, q4⟩
    · exact ⟨q.1, q.2.2⟩
    · exact absurd (q2.symm.trans z) q4
  rw [j1.mout hf, ho h0.1, h0.2, jc_rf]
  exact ⟨by rw [j2.2.2.2.2]; exact vp01, fun _ => hK _ _ _ _ _ _ j2 g1 f5, fun q => q rfl⟩

theorem e_8 {G : Nat → Ss → MS → Prop} (hG : GB G) {L m : Nat} {xs : Nat → Int32} {K23 : Nat → Nat → Nat → Int32 → St → Nat → Nat → Prop} {a1 a2 a3 : Nat} {arr : Nat → Nat} {D : Nat → Nat → Nat} {σ : St} {S : Ss} {w : MS} {k n : Nat} (hi : 7 * m + 7 ≤ L) (hL : L ≤ 3584) (st : STi G m S w (f_X11_room (xs (nI (7 * m) + 1).toNatClampNeg)) (g_X12_room (xs (nI (7 * m) + 1).toNatClampNeg)) [(1, 1)]) (j : J a1 a2 a3 arr D σ S w) (hr : RM S k n) (hK : ∀ D' τ S' w' k' n', J a1 a2 a3 arr D' τ S' w' → G (m + 1) S' w' → RM S' k' n' → K23 a1 a2 a3 (nI (7 * m) + 7) τ k' n') : w_L_law_821 L xs K23 a1 a2 a3 (nI (7 * m)) σ k n := by
  obtain ⟨r, S', r', w', e1, e2, g1, hc⟩ := st
  have b := hG _ _ _ g1
  have hZ := mle e1
  obtain ⟨k1, n1, k2, n2, f1, f2, f3, f4, f5⟩ := rm_split hr hZ b
  have v1 : vp_in (nI (7 * m) + 1) L := vpi hi hL 1 (by decide) rfl
  unfold w_L_law_821
  refine ⟨v1, k1, n1, k2, n2, f1, f2, l_room j e1 f3 f4 (ρ := mI w' 0) (by
    rcases hc with q | q
    · exact Or.inl ⟨q.1, q.2.1⟩
    · exact Or.inr q) (fun D' τ j1 ho => ?_)⟩
  intro _ _
  refine ⟨v1, gq_X12_room j1.2.2.1.1 (by rw [j1.2.2.1.2.1]; exact e2) (fun s hR hw => ?_)⟩
  intro he hf
  have j2 := j1.mod hR hw he hf
  unfold w_X12_thrown
  rw [j2.thr]
  intro _ _
  refine ⟨fun _ => ⟨fun _ => hK _ _ _ _ _ _ j2 g1 f5, fun z => ?_⟩, fun q => q rfl⟩
  have h0 : r.1 = 0 ∧ r.2 = r' := by
    rcases hc with q | ⟨c, -, q1, q2, q3, q4⟩
    · exact ⟨q.1, q.2.2⟩
    · exact absurd (q2.symm.trans z) q4
  rw [j1.mout hf, ho h0.1, h0.2, jc_rf]
  exact ⟨by rw [j2.2.2.2.2]; exact vp01, fun _ => hK _ _ _ _ _ _ j2 g1 f5, fun q => q rfl⟩

theorem e_9 {G : Nat → Ss → MS → Prop} (hG : GB G) {L m : Nat} {xs : Nat → Int32} {K23 : Nat → Nat → Nat → Int32 → St → Nat → Nat → Prop} {a1 a2 a3 : Nat} {arr : Nat → Nat} {D : Nat → Nat → Nat} {σ : St} {S : Ss} {w : MS} {k n : Nat} (hi : 7 * m + 7 ≤ L) (hL : L ≤ 3584) (st : STi G m S w (f_X11_notice (xs (nI (7 * m) + 1).toNatClampNeg) (xs (nI (7 * m) + 2).toNatClampNeg)) (g_X12_notice (xs (nI (7 * m) + 1).toNatClampNeg) (xs (nI (7 * m) + 2).toNatClampNeg)) [(1, 1), (2, 2), (3, 3)]) (j : J a1 a2 a3 arr D σ S w) (hr : RM S k n) (hK : ∀ D' τ S' w' k' n', J a1 a2 a3 arr D' τ S' w' → G (m + 1) S' w' → RM S' k' n' → K23 a1 a2 a3 (nI (7 * m) + 7) τ k' n') : w_L_law_877 L xs K23 a1 a2 a3 (nI (7 * m)) σ k n := by
  obtain ⟨r, S', r', w', e1, e2, g1, hc⟩ := st
  have b := hG _ _ _ g1
  have hZ := mle e1
  obtain ⟨k1, n1, k2, n2, f1, f2, f3, f4, f5⟩ := rm_split hr hZ b
  have v1 : vp_in (nI (7 * m) + 1) L := vpi hi hL 1 (by decide) rfl
  have v2 : vp_in (nI (7 * m) + 2) L := vpi hi hL 2 (by decide) rfl
  unfold w_L_law_877
  refine ⟨v1, v2, k1, n1, k2, n2, f1, f2, l_notice j e1 f3 f4 (ρ := mI w' 0) (by
    rcases hc with q | q
    · exact Or.inl ⟨q.1, q.2.1⟩
    · exact Or.inr q) (fun D' τ j1 ho => ?_)⟩
  intro _ _
  refine ⟨v1, v2, gq_X12_notice j1.2.2.1.1 (by rw [j1.2.2.1.2.1]; exact e2) (fun s hR hw => ?_)⟩
  intro he hf
  have j2 := j1.mod hR hw he hf
  unfold w_X12_thrown
  rw [j2.thr]
  intro _ _
  refine ⟨fun _ => ⟨fun _ => hK _ _ _ _ _ _ j2 g1 f5, fun z => ?_⟩, fun q => q rfl⟩
  have h0 : r.1 = 0 ∧ r.2 = r' := by
    rcases hc with q | ⟨c, -, q1, q2, q3, q4⟩
    · exact ⟨q.1, q.2.2⟩
    · exact absurd (q2.symm.trans z) q4
  rw [j1.mout hf, ho h0.1, h0.2, jc_rf]
  exact ⟨by rw [j2.2.2.2.2]; exact vp01, fun _ => hK _ _ _ _ _ _ j2 g1 f5, fun q => q rfl⟩

theorem e_10 {G : Nat → Ss → MS → Prop} (hG : GB G) {L m : Nat} {xs : Nat → Int32} {K23 : Nat → Nat → Nat → Int32 → St → Nat → Nat → Prop} {a1 a2 a3 : Nat} {arr : Nat → Nat} {D : Nat → Nat → Nat} {σ : St} {S : Ss} {w : MS} {k n : Nat} (hi : 7 * m + 7 ≤ L) (hL : L ≤ 3584) (st : STi G m S w (f_X11_receive (xs (nI (7 * m) + 1).toNatClampNeg) (xs (nI (7 * m) + 2).toNatClampNeg) (xs (nI (7 * m) + 3).toNatClampNeg)) (g_X12_receive (xs (nI (7 * m) + 1).toNatClampNeg) (xs (nI (7 * m) + 2).toNatClampNeg) (xs (nI (7 * m) + 3).toNatClampNeg)) [(1, 1), (2, 2), (3, 3)]) (j : J a1 a2 a3 arr D σ S w) (hr : RM S k n) (hK : ∀ D' τ S' w' k' n', J a1 a2 a3 arr D' τ S' w' → G (m + 1) S' w' → RM S' k' n' → K23 a1 a2 a3 (nI (7 * m) + 7) τ k' n') : w_L_law_945 L xs K23 a1 a2 a3 (nI (7 * m)) σ k n := by
  obtain ⟨r, S', r', w', e1, e2, g1, hc⟩ := st
  have b := hG _ _ _ g1
  have hZ := mle e1
  obtain ⟨k1, n1, k2, n2, f1, f2, f3, f4, f5⟩ := rm_split hr hZ b
  have v1 : vp_in (nI (7 * m) + 1) L := vpi hi hL 1 (by decide) rfl
  have v2 : vp_in (nI (7 * m) + 2) L := vpi hi hL 2 (by decide) rfl
  have v3 : vp_in (nI (7 * m) + 3) L := vpi hi hL 3 (by decide) rfl
  unfold w_L_law_945
  refine ⟨v1, v2, v3, k1, n1, k2, n2, f1, f2, l_receive j e1 f3 f4 (ρ := mI w' 0) (by
    rcases hc with q | q
    · exact Or.inl ⟨q.1, q.2.1⟩
    · exact Or.inr q) (fun D' τ j1 ho => ?_)⟩
  intro _ _
  refine ⟨v1, v2, v3, gq_X12_receive j1.2.2.1.1 (by rw [j1.2.2.1.2.1]; exact e2) (fun s hR hw => ?_)⟩
  intro he hf
  have j2 := j1.mod hR hw he hf
  unfold w_X12_thrown
  rw [j2.thr]
  intro _ _
  refine ⟨fun _ => ⟨fun _ => hK _ _ _ _ _ _ j2 g1 f5, fun z => ?_⟩, fun q => q rfl⟩
  have h0 : r.1 = 0 ∧ r.2 = r' := by
    rcases hc with q | ⟨c, -, q1, q2, q3, q4⟩
    · exact ⟨q.1, q.2.2⟩
    · exact absurd (q2.symm.trans z) q4
  rw [j1.mout hf, ho h0.1, h0.2, jc_rf]
  exact ⟨by rw [j2.2.2.2.2]; exact vp01, fun _ => hK _ _ _ _ _ _ j2 g1 f5, fun q => q rfl⟩

theorem e_11 {G : Nat → Ss → MS → Prop} (hG : GB G) {L m : Nat} {xs : Nat → Int32} {K23 : Nat → Nat → Nat → Int32 → St → Nat → Nat → Prop} {a1 a2 a3 : Nat} {arr : Nat → Nat} {D : Nat → Nat → Nat} {σ : St} {S : Ss} {w : MS} {k n : Nat} (hi : 7 * m + 7 ≤ L) (hL : L ≤ 3584) (st : STi G m S w (f_X11_close (xs (nI (7 * m) + 1).toNatClampNeg)) (g_X12_close (xs (nI (7 * m) + 1).toNatClampNeg)) [(1, 1), (3, 2)]) (j : J a1 a2 a3 arr D σ S w) (hr : RM S k n) (hK : ∀ D' τ S' w' k' n', J a1 a2 a3 arr D' τ S' w' → G (m + 1) S' w' → RM S' k' n' → K23 a1 a2 a3 (nI (7 * m) + 7) τ k' n') : w_L_law_1025 L xs K23 a1 a2 a3 (nI (7 * m)) σ k n := by
  obtain ⟨r, S', r', w', e1, e2, g1, hc⟩ := st
  have b := hG _ _ _ g1
  have hZ := mle e1
  obtain ⟨k1, n1, k2, n2, f1, f2, f3, f4, f5⟩ := rm_split hr hZ b
  have v1 : vp_in (nI (7 * m) + 1) L := vpi hi hL 1 (by decide) rfl
  unfold w_L_law_1025
  refine ⟨v1, k1, n1, k2, n2, f1, f2, l_close j e1 f3 f4 (ρ := mI w' 0) (by
    rcases hc with q | q
    · exact Or.inl ⟨q.1, q.2.1⟩
    · exact Or.inr q) (fun D' τ j1 ho => ?_)⟩
  intro _ _
  refine ⟨v1, gq_X12_close j1.2.2.1.1 (by rw [j1.2.2.1.2.1]; exact e2) (fun s hR hw => ?_)⟩
  intro he hf
  have j2 := j1.mod hR hw he hf
  unfold w_X12_thrown
  rw [j2.thr]
  intro _ _
  refine ⟨fun _ => ⟨fun _ => hK _ _ _ _ _ _ j2 g1 f5, fun z => ?_⟩, fun q => q rfl⟩
  have h0 : r.1 = 0 ∧ r.2 = r' := by
    rcases hc with q | ⟨c, -, q1, q2, q3, q4⟩
    · exact ⟨q.1, q.2.2⟩
    · exact absurd (q2.symm.trans z) q4
  rw [j1.mout hf, ho h0.1, h0.2, jc_rf]
  exact ⟨by rw [j2.2.2.2.2]; exact vp01, fun _ => hK _ _ _ _ _ _ j2 g1 f5, fun q => q rfl⟩

theorem e_12 {G : Nat → Ss → MS → Prop} (hG : GB G) {L m : Nat} {xs : Nat → Int32} {K23 : Nat → Nat → Nat → Int32 → St → Nat → Nat → Prop} {a1 a2 a3 : Nat} {arr : Nat → Nat} {D : Nat → Nat → Nat} {σ : St} {S : Ss} {w : MS} {k n : Nat} (hi : 7 * m + 7 ≤ L) (hL : L ≤ 3584) (st : STi G m S w (f_X11_others (xs (nI (7 * m) + 1).toNatClampNeg)) (g_X12_others (xs (nI (7 * m) + 1).toNatClampNeg)) [(1, 1)]) (j : J a1 a2 a3 arr D σ S w) (hr : RM S k n) (hK : ∀ D' τ S' w' k' n', J a1 a2 a3 arr D' τ S' w' → G (m + 1) S' w' → RM S' k' n' → K23 a1 a2 a3 (nI (7 * m) + 7) τ k' n') : w_L_law_1081 L xs K23 a1 a2 a3 (nI (7 * m)) σ k n := by
  obtain ⟨r, S', r', w', e1, e2, g1, hc⟩ := st
  have b := hG _ _ _ g1
  have hZ := mle e1
  obtain ⟨k1, n1, k2, n2, f1, f2, f3, f4, f5⟩ := rm_split hr hZ b
  have v1 : vp_in (nI (7 * m) + 1) L := vpi hi hL 1 (by decide) rfl
  unfold w_L_law_1081
  refine ⟨v1, k1, n1, k2, n2, f1, f2, l_others j e1 f3 f4 (ρ := mI w' 0) (by
    rcases hc with q | q
    · exact Or.inl ⟨q.1, q.2.1⟩
    · exact Or.inr q) (fun D' τ j1 ho => ?_)⟩
  intro _ _
  refine ⟨v1, gq_X12_others j1.2.2.1.1 (by rw [j1.2.2.1.2.1]; exact e2) (fun s hR hw => ?_)⟩
  intro he hf
  have j2 := j1.mod hR hw he hf
  unfold w_X12_thrown
  rw [j2.thr]
  intro _ _
  refine ⟨fun _ => ⟨fun _ => hK _ _ _ _ _ _ j2 g1 f5, fun z => ?_⟩, fun q => q rfl⟩
  have h0 : r.1 = 0 ∧ r.2 = r' := by
    rcases hc with q | ⟨c, -, q1, q2, q3, q4⟩
    · exact ⟨q.1, q.2.2⟩
    · exact absurd (q2.symm.trans z) q4
  rw [j1.mout hf, ho h0.1, h0.2, jc_rf]
  exact ⟨by rw [j2.2.2.2.2]; exact vp01, fun _ => hK _ _ _ _ _ _ j2 g1 f5, fun q => q rfl⟩

theorem e_13 {G : Nat → Ss → MS → Prop} (hG : GB G) {L m : Nat} {xs : Nat → Int32} {K23 : Nat → Nat → Nat → Int32 → St → Nat → Nat → Prop} {a1 a2 a3 : Nat} {arr : Nat → Nat} {D : Nat → Nat → Nat} {σ : St} {S : Ss} {w : MS} {k n : Nat} (hi : 7 * m + 7 ≤ L) (hL : L ≤ 3584) (st : STi G m S w (f_X11_putAway (xs (nI (7 * m) + 1).toNatClampNeg) (xs (nI (7 * m) + 2).toNatClampNeg)) (g_X12_putAway (xs (nI (7 * m) + 1).toNatClampNeg) (xs (nI (7 * m) + 2).toNatClampNeg)) [(1, 1), (2, 2), (3, 3)]) (j : J a1 a2 a3 arr D σ S w) (hr : RM S k n) (hK : ∀ D' τ S' w' k' n', J a1 a2 a3 arr D' τ S' w' → G (m + 1) S' w' → RM S' k' n' → K23 a1 a2 a3 (nI (7 * m) + 7) τ k' n') : w_L_law_1137 L xs K23 a1 a2 a3 (nI (7 * m)) σ k n := by
  obtain ⟨r, S', r', w', e1, e2, g1, hc⟩ := st
  have b := hG _ _ _ g1
  have hZ := mle e1
  obtain ⟨k1, n1, k2, n2, f1, f2, f3, f4, f5⟩ := rm_split hr hZ b
  have v1 : vp_in (nI (7 * m) + 1) L := vpi hi hL 1 (by decide) rfl
  have v2 : vp_in (nI (7 * m) + 2) L := vpi hi hL 2 (by decide) rfl
  unfold w_L_law_1137
  refine ⟨v1, v2, k1, n1, k2, n2, f1, f2, l_putAway j e1 f3 f4 (ρ := mI w' 0) (by
    rcases hc with q | q
    · exact Or.inl ⟨q.1, q.2.1⟩
    · exact Or.inr q) (fun D' τ j1 ho => ?_)⟩
  intro _ _
  refine ⟨v1, v2, gq_X12_putAway j1.2.2.1.1 (by rw [j1.2.2.1.2.1]; exact e2) (fun s hR hw => ?_)⟩
  intro he hf
  have j2 := j1.mod hR hw he hf
  unfold w_X12_thrown
  rw [j2.thr]
  intro _ _
  refine ⟨fun _ => ⟨fun _ => hK _ _ _ _ _ _ j2 g1 f5, fun z => ?_⟩, fun q => q rfl⟩
  have h0 : r.1 = 0 ∧ r.2 = r' := by
    rcases hc with q | ⟨c, -, q1, q2, q3, q4⟩
    · exact ⟨q.1, q.2.2⟩
    · exact absurd (q2.symm.trans z) q4
  rw [j1.mout hf, ho h0.1, h0.2, jc_rf]
  exact ⟨by rw [j2.2.2.2.2]; exact vp01, fun _ => hK _ _ _ _ _ _ j2 g1 f5, fun q => q rfl⟩

theorem e_14 {G : Nat → Ss → MS → Prop} (hG : GB G) {L m : Nat} {xs : Nat → Int32} {K23 : Nat → Nat → Nat → Int32 → St → Nat → Nat → Prop} {a1 a2 a3 : Nat} {arr : Nat → Nat} {D : Nat → Nat → Nat} {σ : St} {S : Ss} {w : MS} {k n : Nat} (hi : 7 * m + 7 ≤ L) (hL : L ≤ 3584) (st : STn G m S w (f_X11_refill) (g_X12_refill)) (j : J a1 a2 a3 arr D σ S w) (hr : RM S k n) (hK : ∀ D' τ S' w' k' n', J a1 a2 a3 arr D' τ S' w' → G (m + 1) S' w' → RM S' k' n' → K23 a1 a2 a3 (nI (7 * m) + 7) τ k' n') : w_L_law_1205 L xs K23 a1 a2 a3 (nI (7 * m)) σ k n := by
  obtain ⟨r, S', w', e1, e2, g1⟩ := st
  have b := hG _ _ _ g1
  have hZ := mle e1
  obtain ⟨k1, n1, k2, n2, f1, f2, f3, f4, f5⟩ := rm_split hr hZ b
  unfold w_L_law_1205
  refine ⟨k1, n1, k2, n2, f1, f2, q_X11_refill j.1 j.2.1 e1 f3 f4 (fun D' τ h X => ?_)⟩
  intro he hf
  have j2 := j.cls h X hZ he hf
  refine gq_X12_refill j2.2.2.1.1 (by rw [j2.2.2.1.2.1]; exact e2) (fun s hR hw => ?_)
  intro he hf
  have j3 := j2.mod hR hw he hf
  exact ⟨fun _ => hK _ _ _ _ _ _ j3 g1 f5, fun q => q rfl⟩

theorem e_15 {G : Nat → Ss → MS → Prop} (hG : GB G) {L m : Nat} {xs : Nat → Int32} {K23 : Nat → Nat → Nat → Int32 → St → Nat → Nat → Prop} {a1 a2 a3 : Nat} {arr : Nat → Nat} {D : Nat → Nat → Nat} {σ : St} {S : Ss} {w : MS} {k n : Nat} (hi : 7 * m + 7 ≤ L) (hL : L ≤ 3584) (st0 : (xs (nI (7 * m) + 2).toNatClampNeg) = 0 → STi G m S w (f_X11_order (xs (nI (7 * m) + 1).toNatClampNeg) 0 (xs (nI (7 * m) + 3).toNatClampNeg)) (g_X12_order (xs (nI (7 * m) + 1).toNatClampNeg) 0 (xs (nI (7 * m) + 3).toNatClampNeg)) [(2, 1), (3, 2)]) (st1 : ¬ (xs (nI (7 * m) + 2).toNatClampNeg) = 0 → STi G m S w (f_X11_order (xs (nI (7 * m) + 1).toNatClampNeg) 1 (xs (nI (7 * m) + 3).toNatClampNeg)) (g_X12_order (xs (nI (7 * m) + 1).toNatClampNeg) 1 (xs (nI (7 * m) + 3).toNatClampNeg)) [(2, 1), (3, 2)]) (j : J a1 a2 a3 arr D σ S w) (hr : RM S k n) (hK : ∀ D' τ S' w' k' n', J a1 a2 a3 arr D' τ S' w' → G (m + 1) S' w' → RM S' k' n' → K23 a1 a2 a3 (nI (7 * m) + 7) τ k' n') : w_L_law_1218 L xs K23 a1 a2 a3 (nI (7 * m)) σ k n := by
  have v1 : vp_in (nI (7 * m) + 1) L := vpi hi hL 1 (by decide) rfl
  have v2 : vp_in (nI (7 * m) + 2) L := vpi hi hL 2 (by decide) rfl
  have v3 : vp_in (nI (7 * m) + 3) L := vpi hi hL 3 (by decide) rfl
  unfold w_L_law_1218
  refine ⟨v1, v2, fun z => ?_, fun z => ?_⟩
  · obtain ⟨r, S', r', w', e1, e2, g1, hc⟩ := st0 z
    have b := hG _ _ _ g1
    have hZ := mle e1
    obtain ⟨k1, n1, k2, n2, f1, f2, f3, f4, f5⟩ := rm_split hr hZ b
    unfold w_L_law_1239
    refine ⟨v3, k1, n1, k2, n2, f1, f2, l_order j e1 f3 f4 (ρ := mI w' 0) (by
      rcases hc with q | q
      · exact Or.inl ⟨q.1, q.2.1⟩
      · exact Or.inr q) (fun D' τ j1 ho => ?_)⟩
    intro _ _
    refine ⟨v1, v2, fun _ => ?_, fun q => absurd z q⟩
    unfold w_L_law_1272
    refine ⟨v3,  gq_X12_order j1.2.2.1.1 (by rw [j1.2.2.1.2.1]; exact e2) (fun s hR hw => ?_)⟩
    intro he hf
    have j2 := j1.mod hR hw he hf
    unfold w_X12_thrown
    rw [j2.thr]
    intro _ _
    refine ⟨fun _ => ⟨fun _ => hK _ _ _ _ _ _ j2 g1 f5, fun z0 => ?_⟩, fun q => q rfl⟩
    have h0 : r.1 = 0 ∧ r.2 = r' := by
      rcases hc with q | ⟨c, -, q1, q2, q3, q4⟩
      · exact ⟨q.1, q.2.2⟩
      · exact absurd (q2.symm.trans z0) q4
    rw [j1.mout hf, ho h0.1, h0.2, jc_rf]
    exact ⟨by rw [j2.2.2.2.2]; exact vp01, fun _ => hK _ _ _ _ _ _ j2 g1 f5, fun q => q rfl⟩
  · obtain ⟨r, S', r', w', e1, e2, g1, hc⟩ := st1 z
    have b := hG _ _ _ g1
    have hZ := mle e1
    obtain ⟨k1, n1, k2, n2, f1, f2, f3, f4, f5⟩ := rm_split hr hZ b
    unfold w_L_law_1239
    refine ⟨v3, k1, n1, k2, n2, f1, f2, l_order j e1 f3 f4 (ρ := mI w' 0) (by
      rcases hc with q | q
      · exact Or.inl ⟨q.1, q.2.1⟩
      · exact Or.inr q) (fun D' τ j1 ho => ?_)⟩
    intro _ _
    refine ⟨v1, v2, fun q => absurd q z, fun _ => ?_⟩
    unfold w_L_law_1272
    refine ⟨v3,  gq_X12_order j1.2.2.1.1 (by rw [j1.2.2.1.2.1]; exact e2) (fun s hR hw => ?_)⟩
    intro he hf
    have j2 := j1.mod hR hw he hf
    unfold w_X12_thrown
    rw [j2.thr]
    intro _ _
    refine ⟨fun _ => ⟨fun _ => hK _ _ _ _ _ _ j2 g1 f5, fun z0 => ?_⟩, fun q => q rfl⟩
    have h0 : r.1 = 0 ∧ r.2 = r' := by
      rcases hc with q | ⟨c, -, q1, q2, q3, q4⟩
      · exact ⟨q.1, q.2.2⟩
      · exact absurd (q2.symm.trans z0) q4
    rw [j1.mout hf, ho h0.1, h0.2, jc_rf]
    exact ⟨by rw [j2.2.2.2.2]; exact vp01, fun _ => hK _ _ _ _ _ _ j2 g1 f5, fun q => q rfl⟩

theorem e_16 {G : Nat → Ss → MS → Prop} (hG : GB G) {L m : Nat} {xs : Nat → Int32} {K23 : Nat → Nat → Nat → Int32 → St → Nat → Nat → Prop} {a1 a2 a3 : Nat} {arr : Nat → Nat} {D : Nat → Nat → Nat} {σ : St} {S : Ss} {w : MS} {k n : Nat} (hi : 7 * m + 7 ≤ L) (hL : L ≤ 3584) (st : STi G m S w (f_X11_line (xs (nI (7 * m) + 1).toNatClampNeg) (xs (nI (7 * m) + 2).toNatClampNeg) (xs (nI (7 * m) + 3).toNatClampNeg)) (g_X12_line (xs (nI (7 * m) + 1).toNatClampNeg) (xs (nI (7 * m) + 2).toNatClampNeg) (xs (nI (7 * m) + 3).toNatClampNeg)) [(1, 1), (2, 2), (3, 3)]) (j : J a1 a2 a3 arr D σ S w) (hr : RM S k n) (hK : ∀ D' τ S' w' k' n', J a1 a2 a3 arr D' τ S' w' → G (m + 1) S' w' → RM S' k' n' → K23 a1 a2 a3 (nI (7 * m) + 7) τ k' n') : w_L_law_1314 L xs K23 a1 a2 a3 (nI (7 * m)) σ k n := by
  obtain ⟨r, S', r', w', e1, e2, g1, hc⟩ := st
  have b := hG _ _ _ g1
  have hZ := mle e1
  obtain ⟨k1, n1, k2, n2, f1, f2, f3, f4, f5⟩ := rm_split hr hZ b
  have v1 : vp_in (nI (7 * m) + 1) L := vpi hi hL 1 (by decide) rfl
  have v2 : vp_in (nI (7 * m) + 2) L := vpi hi hL 2 (by decide) rfl
  have v3 : vp_in (nI (7 * m) + 3) L := vpi hi hL 3 (by decide) rfl
  unfold w_L_law_1314
  refine ⟨v1, v2, v3, k1, n1, k2, n2, f1, f2, l_line j e1 f3 f4 (ρ := mI w' 0) (by
    rcases hc with q | q
    · exact Or.inl ⟨q.1, q.2.1⟩
    · exact Or.inr q) (fun D' τ j1 ho => ?_)⟩
  intro _ _
  refine ⟨v1, v2, v3, gq_X12_line j1.2.2.1.1 (by rw [j1.2.2.1.2.1]; exact e2) (fun s hR hw => ?_)⟩
  intro he hf
  have j2 := j1.mod hR hw he hf
  unfold w_X12_thrown
  rw [j2.thr]
  intro _ _
  refine ⟨fun _ => ⟨fun _ => hK _ _ _ _ _ _ j2 g1 f5, fun z => ?_⟩, fun q => q rfl⟩
  have h0 : r.1 = 0 ∧ r.2 = r' := by
    rcases hc with q | ⟨c, -, q1, q2, q3, q4⟩
    · exact ⟨q.1, q.2.2⟩
    · exact absurd (q2.symm.trans z) q4
  rw [j1.mout hf, ho h0.1, h0.2, jc_rf]
  exact ⟨by rw [j2.2.2.2.2]; exact vp01, fun _ => hK _ _ _ _ _ _ j2 g1 f5, fun q => q rfl⟩

theorem e_17 {G : Nat → Ss → MS → Prop} (hG : GB G) {L m : Nat} {xs : Nat → Int32} {K23 : Nat → Nat → Nat → Int32 → St → Nat → Nat → Prop} {a1 a2 a3 : Nat} {arr : Nat → Nat} {D : Nat → Nat → Nat} {σ : St} {S : Ss} {w : MS} {k n : Nat} (hi : 7 * m + 7 ≤ L) (hL : L ≤ 3584) (st : STn G m S w (f_X11_allocate) (g_X12_allocate)) (j : J a1 a2 a3 arr D σ S w) (hr : RM S k n) (hK : ∀ D' τ S' w' k' n', J a1 a2 a3 arr D' τ S' w' → G (m + 1) S' w' → RM S' k' n' → K23 a1 a2 a3 (nI (7 * m) + 7) τ k' n') : w_L_law_1394 L xs K23 a1 a2 a3 (nI (7 * m)) σ k n := by
  obtain ⟨r, S', w', e1, e2, g1⟩ := st
  have b := hG _ _ _ g1
  have hZ := mle e1
  obtain ⟨k1, n1, k2, n2, f1, f2, f3, f4, f5⟩ := rm_split hr hZ b
  unfold w_L_law_1394
  refine ⟨k1, n1, k2, n2, f1, f2, q_X11_allocate j.1 j.2.1 e1 f3 f4 (fun D' τ h X => ?_)⟩
  intro he hf
  have j2 := j.cls h X hZ he hf
  refine gq_X12_allocate j2.2.2.1.1 (by rw [j2.2.2.1.2.1]; exact e2) (fun s hR hw => ?_)
  intro he hf
  have j3 := j2.mod hR hw he hf
  exact ⟨fun _ => hK _ _ _ _ _ _ j3 g1 f5, fun q => q rfl⟩

theorem e_18 {G : Nat → Ss → MS → Prop} (hG : GB G) {L m : Nat} {xs : Nat → Int32} {K23 : Nat → Nat → Nat → Int32 → St → Nat → Nat → Prop} {a1 a2 a3 : Nat} {arr : Nat → Nat} {D : Nat → Nat → Nat} {σ : St} {S : Ss} {w : MS} {k n : Nat} (hi : 7 * m + 7 ≤ L) (hL : L ≤ 3584) (st : STi G m S w (f_X11_lacks (xs (nI (7 * m) + 1).toNatClampNeg) (xs (nI (7 * m) + 2).toNatClampNeg)) (g_X12_lacks (xs (nI (7 * m) + 1).toNatClampNeg) (xs (nI (7 * m) + 2).toNatClampNeg)) [(1, 1)]) (j : J a1 a2 a3 arr D σ S w) (hr : RM S k n) (hK : ∀ D' τ S' w' k' n', J a1 a2 a3 arr D' τ S' w' → G (m + 1) S' w' → RM S' k' n' → K23 a1 a2 a3 (nI (7 * m) + 7) τ k' n') : w_L_law_1407 L xs K23 a1 a2 a3 (nI (7 * m)) σ k n := by
  obtain ⟨r, S', r', w', e1, e2, g1, hc⟩ := st
  have b := hG _ _ _ g1
  have hZ := mle e1
  obtain ⟨k1, n1, k2, n2, f1, f2, f3, f4, f5⟩ := rm_split hr hZ b
  have v1 : vp_in (nI (7 * m) + 1) L := vpi hi hL 1 (by decide) rfl
  have v2 : vp_in (nI (7 * m) + 2) L := vpi hi hL 2 (by decide) rfl
  unfold w_L_law_1407
  refine ⟨v1, v2, k1, n1, k2, n2, f1, f2, l_lacks j e1 f3 f4 (ρ := mI w' 0) (by
    rcases hc with q | q
    · exact Or.inl ⟨q.1, q.2.1⟩
    · exact Or.inr q) (fun D' τ j1 ho => ?_)⟩
  intro _ _
  refine ⟨v1, v2, gq_X12_lacks j1.2.2.1.1 (by rw [j1.2.2.1.2.1]; exact e2) (fun s hR hw => ?_)⟩
  intro he hf
  have j2 := j1.mod hR hw he hf
  unfold w_X12_thrown
  rw [j2.thr]
  intro _ _
  refine ⟨fun _ => ⟨fun _ => hK _ _ _ _ _ _ j2 g1 f5, fun z => ?_⟩, fun q => q rfl⟩
  have h0 : r.1 = 0 ∧ r.2 = r' := by
    rcases hc with q | ⟨c, -, q1, q2, q3, q4⟩
    · exact ⟨q.1, q.2.2⟩
    · exact absurd (q2.symm.trans z) q4
  rw [j1.mout hf, ho h0.1, h0.2, jc_rf]
  exact ⟨by rw [j2.2.2.2.2]; exact vp01, fun _ => hK _ _ _ _ _ _ j2 g1 f5, fun q => q rfl⟩

theorem e_19 {G : Nat → Ss → MS → Prop} (hG : GB G) {L m : Nat} {xs : Nat → Int32} {K23 : Nat → Nat → Nat → Int32 → St → Nat → Nat → Prop} {a1 a2 a3 : Nat} {arr : Nat → Nat} {D : Nat → Nat → Nat} {σ : St} {S : Ss} {w : MS} {k n : Nat} (hi : 7 * m + 7 ≤ L) (hL : L ≤ 3584) (st : STi G m S w (f_X11_held (xs (nI (7 * m) + 1).toNatClampNeg) (xs (nI (7 * m) + 2).toNatClampNeg) (xs (nI (7 * m) + 3).toNatClampNeg)) (g_X12_held (xs (nI (7 * m) + 1).toNatClampNeg) (xs (nI (7 * m) + 2).toNatClampNeg) (xs (nI (7 * m) + 3).toNatClampNeg)) [(1, 1)]) (j : J a1 a2 a3 arr D σ S w) (hr : RM S k n) (hK : ∀ D' τ S' w' k' n', J a1 a2 a3 arr D' τ S' w' → G (m + 1) S' w' → RM S' k' n' → K23 a1 a2 a3 (nI (7 * m) + 7) τ k' n') : w_L_law_1475 L xs K23 a1 a2 a3 (nI (7 * m)) σ k n := by
  obtain ⟨r, S', r', w', e1, e2, g1, hc⟩ := st
  have b := hG _ _ _ g1
  have hZ := mle e1
  obtain ⟨k1, n1, k2, n2, f1, f2, f3, f4, f5⟩ := rm_split hr hZ b
  have v1 : vp_in (nI (7 * m) + 1) L := vpi hi hL 1 (by decide) rfl
  have v2 : vp_in (nI (7 * m) + 2) L := vpi hi hL 2 (by decide) rfl
  have v3 : vp_in (nI (7 * m) + 3) L := vpi hi hL 3 (by decide) rfl
  unfold w_L_law_1475
  refine ⟨v1, v2, v3, k1, n1, k2, n2, f1, f2, l_held j e1 f3 f4 (ρ := mI w' 0) (by
    rcases hc with q | q
    · exact Or.inl ⟨q.1, q.2.1⟩
    · exact Or.inr q) (fun D' τ j1 ho => ?_)⟩
  intro _ _
  refine ⟨v1, v2, v3, gq_X12_held j1.2.2.1.1 (by rw [j1.2.2.1.2.1]; exact e2) (fun s hR hw => ?_)⟩
  intro he hf
  have j2 := j1.mod hR hw he hf
  unfold w_X12_thrown
  rw [j2.thr]
  intro _ _
  refine ⟨fun _ => ⟨fun _ => hK _ _ _ _ _ _ j2 g1 f5, fun z => ?_⟩, fun q => q rfl⟩
  have h0 : r.1 = 0 ∧ r.2 = r' := by
    rcases hc with q | ⟨c, -, q1, q2, q3, q4⟩
    · exact ⟨q.1, q.2.2⟩
    · exact absurd (q2.symm.trans z) q4
  rw [j1.mout hf, ho h0.1, h0.2, jc_rf]
  exact ⟨by rw [j2.2.2.2.2]; exact vp01, fun _ => hK _ _ _ _ _ _ j2 g1 f5, fun q => q rfl⟩

theorem e_20 {G : Nat → Ss → MS → Prop} (hG : GB G) {L m : Nat} {xs : Nat → Int32} {K23 : Nat → Nat → Nat → Int32 → St → Nat → Nat → Prop} {a1 a2 a3 : Nat} {arr : Nat → Nat} {D : Nat → Nat → Nat} {σ : St} {S : Ss} {w : MS} {k n : Nat} (hi : 7 * m + 7 ≤ L) (hL : L ≤ 3584) (st : STi G m S w (f_X11_wave (xs (nI (7 * m) + 1).toNatClampNeg) (xs (nI (7 * m) + 2).toNatClampNeg)) (g_X12_wave (xs (nI (7 * m) + 1).toNatClampNeg) (xs (nI (7 * m) + 2).toNatClampNeg)) [(1, 1), (2, 2), (3, 3)]) (j : J a1 a2 a3 arr D σ S w) (hr : RM S k n) (hK : ∀ D' τ S' w' k' n', J a1 a2 a3 arr D' τ S' w' → G (m + 1) S' w' → RM S' k' n' → K23 a1 a2 a3 (nI (7 * m) + 7) τ k' n') : w_L_law_1555 L xs K23 a1 a2 a3 (nI (7 * m)) σ k n := by
  obtain ⟨r, S', r', w', e1, e2, g1, hc⟩ := st
  have b := hG _ _ _ g1
  have hZ := mle e1
  obtain ⟨k1, n1, k2, n2, f1, f2, f3, f4, f5⟩ := rm_split hr hZ b
  have v1 : vp_in (nI (7 * m) + 1) L := vpi hi hL 1 (by decide) rfl
  have v2 : vp_in (nI (7 * m) + 2) L := vpi hi hL 2 (by decide) rfl
  unfold w_L_law_1555
  refine ⟨v1, v2, k1, n1, k2, n2, f1, f2, l_wave j e1 f3 f4 (ρ := mI w' 0) (by
    rcases hc with q | q
    · exact Or.inl ⟨q.1, q.2.1⟩
    · exact Or.inr q) (fun D' τ j1 ho => ?_)⟩
  intro _ _
  refine ⟨v1, v2, gq_X12_wave j1.2.2.1.1 (by rw [j1.2.2.1.2.1]; exact e2) (fun s hR hw => ?_)⟩
  intro he hf
  have j2 := j1.mod hR hw he hf
  unfold w_X12_thrown
  rw [j2.thr]
  intro _ _
  refine ⟨fun _ => ⟨fun _ => hK _ _ _ _ _ _ j2 g1 f5, fun z => ?_⟩, fun q => q rfl⟩
  have h0 : r.1 = 0 ∧ r.2 = r' := by
    rcases hc with q | ⟨c, -, q1, q2, q3, q4⟩
    · exact ⟨q.1, q.2.2⟩
    · exact absurd (q2.symm.trans z) q4
  rw [j1.mout hf, ho h0.1, h0.2, jc_rf]
  exact ⟨by rw [j2.2.2.2.2]; exact vp01, fun _ => hK _ _ _ _ _ _ j2 g1 f5, fun q => q rfl⟩

theorem e_21 {G : Nat → Ss → MS → Prop} (hG : GB G) {L m : Nat} {xs : Nat → Int32} {K23 : Nat → Nat → Nat → Int32 → St → Nat → Nat → Prop} {a1 a2 a3 : Nat} {arr : Nat → Nat} {D : Nat → Nat → Nat} {σ : St} {S : Ss} {w : MS} {k n : Nat} (hi : 7 * m + 7 ≤ L) (hL : L ≤ 3584) (st : STi G m S w (f_X11_give (xs (nI (7 * m) + 1).toNatClampNeg) (xs (nI (7 * m) + 2).toNatClampNeg)) (g_X12_give (xs (nI (7 * m) + 1).toNatClampNeg) (xs (nI (7 * m) + 2).toNatClampNeg)) [(1, 1), (3, 2)]) (j : J a1 a2 a3 arr D σ S w) (hr : RM S k n) (hK : ∀ D' τ S' w' k' n', J a1 a2 a3 arr D' τ S' w' → G (m + 1) S' w' → RM S' k' n' → K23 a1 a2 a3 (nI (7 * m) + 7) τ k' n') : w_L_law_1623 L xs K23 a1 a2 a3 (nI (7 * m)) σ k n := by
  obtain ⟨r, S', r', w', e1, e2, g1, hc⟩ := st
  have b := hG _ _ _ g1
  have hZ := mle e1
  obtain ⟨k1, n1, k2, n2, f1, f2, f3, f4, f5⟩ := rm_split hr hZ b
  have v1 : vp_in (nI (7 * m) + 1) L := vpi hi hL 1 (by decide) rfl
  have v2 : vp_in (nI (7 * m) + 2) L := vpi hi hL 2 (by decide) rfl
  unfold w_L_law_1623
  refine ⟨v1, v2, k1, n1, k2, n2, f1, f2, l_give j e1 f3 f4 (ρ := mI w' 0) (by
    rcases hc with q | q
    · exact Or.inl ⟨q.1, q.2.1⟩
    · exact Or.inr q) (fun D' τ j1 ho => ?_)⟩
  intro _ _
  refine ⟨v1, v2, gq_X12_give j1.2.2.1.1 (by rw [j1.2.2.1.2.1]; exact e2) (fun s hR hw => ?_)⟩
  intro he hf
  have j2 := j1.mod hR hw he hf
  unfold w_X12_thrown
  rw [j2.thr]
  intro _ _
  refine ⟨fun _ => ⟨fun _ => hK _ _ _ _ _ _ j2 g1 f5, fun z => ?_⟩, fun q => q rfl⟩
  have h0 : r.1 = 0 ∧ r.2 = r' := by
    rcases hc with q | ⟨c, -, q1, q2, q3, q4⟩
    · exact ⟨q.1, q.2.2⟩
    · exact absurd (q2.symm.trans z) q4
  rw [j1.mout hf, ho h0.1, h0.2, jc_rf]
  exact ⟨by rw [j2.2.2.2.2]; exact vp01, fun _ => hK _ _ _ _ _ _ j2 g1 f5, fun q => q rfl⟩

theorem e_22 {G : Nat → Ss → MS → Prop} (hG : GB G) {L m : Nat} {xs : Nat → Int32} {K23 : Nat → Nat → Nat → Int32 → St → Nat → Nat → Prop} {a1 a2 a3 : Nat} {arr : Nat → Nat} {D : Nat → Nat → Nat} {σ : St} {S : Ss} {w : MS} {k n : Nat} (hi : 7 * m + 7 ≤ L) (hL : L ≤ 3584) (st : STi G m S w (f_X11_pass (xs (nI (7 * m) + 1).toNatClampNeg)) (g_X12_pass (xs (nI (7 * m) + 1).toNatClampNeg)) [(2, 1)]) (j : J a1 a2 a3 arr D σ S w) (hr : RM S k n) (hK : ∀ D' τ S' w' k' n', J a1 a2 a3 arr D' τ S' w' → G (m + 1) S' w' → RM S' k' n' → K23 a1 a2 a3 (nI (7 * m) + 7) τ k' n') : w_L_law_1691 L xs K23 a1 a2 a3 (nI (7 * m)) σ k n := by
  obtain ⟨r, S', r', w', e1, e2, g1, hc⟩ := st
  have b := hG _ _ _ g1
  have hZ := mle e1
  obtain ⟨k1, n1, k2, n2, f1, f2, f3, f4, f5⟩ := rm_split hr hZ b
  have v1 : vp_in (nI (7 * m) + 1) L := vpi hi hL 1 (by decide) rfl
  unfold w_L_law_1691
  refine ⟨v1, k1, n1, k2, n2, f1, f2, l_pass j e1 f3 f4 (ρ := mI w' 0) (by
    rcases hc with q | q
    · exact Or.inl ⟨q.1, q.2.1⟩
    · exact Or.inr q) (fun D' τ j1 ho => ?_)⟩
  intro _ _
  refine ⟨v1, gq_X12_pass j1.2.2.1.1 (by rw [j1.2.2.1.2.1]; exact e2) (fun s hR hw => ?_)⟩
  intro he hf
  have j2 := j1.mod hR hw he hf
  unfold w_X12_thrown
  rw [j2.thr]
  intro _ _
  refine ⟨fun _ => ⟨fun _ => hK _ _ _ _ _ _ j2 g1 f5, fun z => ?_⟩, fun q => q rfl⟩
  have h0 : r.1 = 0 ∧ r.2 = r' := by
    rcases hc with q | ⟨c, -, q1, q2, q3, q4⟩
    · exact ⟨q.1, q.2.2⟩
    · exact absurd (q2.symm.trans z) q4
  rw [j1.mout hf, ho h0.1, h0.2, jc_rf]
  exact ⟨by rw [j2.2.2.2.2]; exact vp01, fun _ => hK _ _ _ _ _ _ j2 g1 f5, fun q => q rfl⟩

theorem e_23 {G : Nat → Ss → MS → Prop} (hG : GB G) {L m : Nat} {xs : Nat → Int32} {K23 : Nat → Nat → Nat → Int32 → St → Nat → Nat → Prop} {a1 a2 a3 : Nat} {arr : Nat → Nat} {D : Nat → Nat → Nat} {σ : St} {S : Ss} {w : MS} {k n : Nat} (hi : 7 * m + 7 ≤ L) (hL : L ≤ 3584) (st : STi G m S w (f_X11_where (xs (nI (7 * m) + 1).toNatClampNeg)) (g_X12_where (xs (nI (7 * m) + 1).toNatClampNeg)) [(1, 1)]) (j : J a1 a2 a3 arr D σ S w) (hr : RM S k n) (hK : ∀ D' τ S' w' k' n', J a1 a2 a3 arr D' τ S' w' → G (m + 1) S' w' → RM S' k' n' → K23 a1 a2 a3 (nI (7 * m) + 7) τ k' n') : w_L_law_1747 L xs K23 a1 a2 a3 (nI (7 * m)) σ k n := by
  obtain ⟨r, S', r', w', e1, e2, g1, hc⟩ := st
  have b := hG _ _ _ g1
  have hZ := mle e1
  obtain ⟨k1, n1, k2, n2, f1, f2, f3, f4, f5⟩ := rm_split hr hZ b
  have v1 : vp_in (nI (7 * m) + 1) L := vpi hi hL 1 (by decide) rfl
  unfold w_L_law_1747
  refine ⟨v1, k1, n1, k2, n2, f1, f2, l_where j e1 f3 f4 (ρ := mI w' 0) (by
    rcases hc with q | q
    · exact Or.inl ⟨q.1, q.2.1⟩
    · exact Or.inr q) (fun D' τ j1 ho => ?_)⟩
  intro _ _
  refine ⟨v1, gq_X12_where j1.2.2.1.1 (by rw [j1.2.2.1.2.1]; exact e2) (fun s hR hw => ?_)⟩
  intro he hf
  have j2 := j1.mod hR hw he hf
  unfold w_X12_thrown
  rw [j2.thr]
  intro _ _
  refine ⟨fun _ => ⟨fun _ => hK _ _ _ _ _ _ j2 g1 f5, fun z => ?_⟩, fun q => q rfl⟩
  have h0 : r.1 = 0 ∧ r.2 = r' := by
    rcases hc with q | ⟨c, -, q1, q2, q3, q4⟩
    · exact ⟨q.1, q.2.2⟩
    · exact absurd (q2.symm.trans z) q4
  rw [j1.mout hf, ho h0.1, h0.2, jc_rf]
  exact ⟨by rw [j2.2.2.2.2]; exact vp01, fun _ => hK _ _ _ _ _ _ j2 g1 f5, fun q => q rfl⟩

theorem e_24 {G : Nat → Ss → MS → Prop} (hG : GB G) {L m : Nat} {xs : Nat → Int32} {K23 : Nat → Nat → Nat → Int32 → St → Nat → Nat → Prop} {a1 a2 a3 : Nat} {arr : Nat → Nat} {D : Nat → Nat → Nat} {σ : St} {S : Ss} {w : MS} {k n : Nat} (hi : 7 * m + 7 ≤ L) (hL : L ≤ 3584) (st : STi G m S w (f_X11_doing (xs (nI (7 * m) + 1).toNatClampNeg)) (g_X12_doing (xs (nI (7 * m) + 1).toNatClampNeg)) [(1, 1)]) (j : J a1 a2 a3 arr D σ S w) (hr : RM S k n) (hK : ∀ D' τ S' w' k' n', J a1 a2 a3 arr D' τ S' w' → G (m + 1) S' w' → RM S' k' n' → K23 a1 a2 a3 (nI (7 * m) + 7) τ k' n') : w_L_law_1803 L xs K23 a1 a2 a3 (nI (7 * m)) σ k n := by
  obtain ⟨r, S', r', w', e1, e2, g1, hc⟩ := st
  have b := hG _ _ _ g1
  have hZ := mle e1
  obtain ⟨k1, n1, k2, n2, f1, f2, f3, f4, f5⟩ := rm_split hr hZ b
  have v1 : vp_in (nI (7 * m) + 1) L := vpi hi hL 1 (by decide) rfl
  unfold w_L_law_1803
  refine ⟨v1, k1, n1, k2, n2, f1, f2, l_doing j e1 f3 f4 (ρ := mI w' 0) (by
    rcases hc with q | q
    · exact Or.inl ⟨q.1, q.2.1⟩
    · exact Or.inr q) (fun D' τ j1 ho => ?_)⟩
  intro _ _
  refine ⟨v1, gq_X12_doing j1.2.2.1.1 (by rw [j1.2.2.1.2.1]; exact e2) (fun s hR hw => ?_)⟩
  intro he hf
  have j2 := j1.mod hR hw he hf
  unfold w_X12_thrown
  rw [j2.thr]
  intro _ _
  refine ⟨fun _ => ⟨fun _ => hK _ _ _ _ _ _ j2 g1 f5, fun z => ?_⟩, fun q => q rfl⟩
  have h0 : r.1 = 0 ∧ r.2 = r' := by
    rcases hc with q | ⟨c, -, q1, q2, q3, q4⟩
    · exact ⟨q.1, q.2.2⟩
    · exact absurd (q2.symm.trans z) q4
  rw [j1.mout hf, ho h0.1, h0.2, jc_rf]
  exact ⟨by rw [j2.2.2.2.2]; exact vp01, fun _ => hK _ _ _ _ _ _ j2 g1 f5, fun q => q rfl⟩

theorem e_25 {G : Nat → Ss → MS → Prop} (hG : GB G) {L m : Nat} {xs : Nat → Int32} {K23 : Nat → Nat → Nat → Int32 → St → Nat → Nat → Prop} {a1 a2 a3 : Nat} {arr : Nat → Nat} {D : Nat → Nat → Nat} {σ : St} {S : Ss} {w : MS} {k n : Nat} (hi : 7 * m + 7 ≤ L) (hL : L ≤ 3584) (st : STn G m S w (f_X11_tasks) (g_X12_tasks)) (j : J a1 a2 a3 arr D σ S w) (hr : RM S k n) (hK : ∀ D' τ S' w' k' n', J a1 a2 a3 arr D' τ S' w' → G (m + 1) S' w' → RM S' k' n' → K23 a1 a2 a3 (nI (7 * m) + 7) τ k' n') : w_L_law_1859 L xs K23 a1 a2 a3 (nI (7 * m)) σ k n := by
  obtain ⟨r, S', w', e1, e2, g1⟩ := st
  have b := hG _ _ _ g1
  have hZ := mle e1
  obtain ⟨k1, n1, k2, n2, f1, f2, f3, f4, f5⟩ := rm_split hr hZ b
  unfold w_L_law_1859
  refine q_X11_tasks j.1 j.2.1 e1 (fun D' τ h X => ?_)
  intro he hf
  have j2 := j.cls h X hZ he hf
  refine gq_X12_tasks j2.2.2.1.1 (by rw [j2.2.2.1.2.1]; exact e2) (fun s hR hw => ?_)
  intro he hf
  have j3 := j2.mod hR hw he hf
  exact ⟨fun _ => hK _ _ _ _ _ _ j3 g1 (by unfold RM at *; have := hZ 61; have := hZ 62; omega), fun q => q rfl⟩

theorem e_26 {G : Nat → Ss → MS → Prop} (hG : GB G) {L m : Nat} {xs : Nat → Int32} {K23 : Nat → Nat → Nat → Int32 → St → Nat → Nat → Prop} {a1 a2 a3 : Nat} {arr : Nat → Nat} {D : Nat → Nat → Nat} {σ : St} {S : Ss} {w : MS} {k n : Nat} (hi : 7 * m + 7 ≤ L) (hL : L ≤ 3584) (st : STi G m S w (f_X11_taskAt (xs (nI (7 * m) + 1).toNatClampNeg)) (g_X12_taskAt (xs (nI (7 * m) + 1).toNatClampNeg)) [(1, 1)]) (j : J a1 a2 a3 arr D σ S w) (hr : RM S k n) (hK : ∀ D' τ S' w' k' n', J a1 a2 a3 arr D' τ S' w' → G (m + 1) S' w' → RM S' k' n' → K23 a1 a2 a3 (nI (7 * m) + 7) τ k' n') : w_L_law_1872 L xs K23 a1 a2 a3 (nI (7 * m)) σ k n := by
  obtain ⟨r, S', r', w', e1, e2, g1, hc⟩ := st
  have b := hG _ _ _ g1
  have hZ := mle e1
  obtain ⟨k1, n1, k2, n2, f1, f2, f3, f4, f5⟩ := rm_split hr hZ b
  have v1 : vp_in (nI (7 * m) + 1) L := vpi hi hL 1 (by decide) rfl
  unfold w_L_law_1872
  refine ⟨v1, k1, n1, k2, n2, f1, f2, l_taskAt j e1 f3 f4 (ρ := mI w' 0) (by
    rcases hc with q | q
    · exact Or.inl ⟨q.1, q.2.1⟩
    · exact Or.inr q) (fun D' τ j1 ho => ?_)⟩
  intro _ _
  refine ⟨v1, gq_X12_taskAt j1.2.2.1.1 (by rw [j1.2.2.1.2.1]; exact e2) (fun s hR hw => ?_)⟩
  intro he hf
  have j2 := j1.mod hR hw he hf
  unfold w_X12_thrown
  rw [j2.thr]
  intro _ _
  refine ⟨fun _ => ⟨fun _ => hK _ _ _ _ _ _ j2 g1 f5, fun z => ?_⟩, fun q => q rfl⟩
  have h0 : r.1 = 0 ∧ r.2 = r' := by
    rcases hc with q | ⟨c, -, q1, q2, q3, q4⟩
    · exact ⟨q.1, q.2.2⟩
    · exact absurd (q2.symm.trans z) q4
  rw [j1.mout hf, ho h0.1, h0.2, jc_rf]
  exact ⟨by rw [j2.2.2.2.2]; exact vp01, fun _ => hK _ _ _ _ _ _ j2 g1 f5, fun q => q rfl⟩

theorem e_27 {G : Nat → Ss → MS → Prop} (hG : GB G) {L m : Nat} {xs : Nat → Int32} {K23 : Nat → Nat → Nat → Int32 → St → Nat → Nat → Prop} {a1 a2 a3 : Nat} {arr : Nat → Nat} {D : Nat → Nat → Nat} {σ : St} {S : Ss} {w : MS} {k n : Nat} (hi : 7 * m + 7 ≤ L) (hL : L ≤ 3584) (st : STn G m S w (f_X11_standstills) (g_X12_standstills)) (j : J a1 a2 a3 arr D σ S w) (hr : RM S k n) (hK : ∀ D' τ S' w' k' n', J a1 a2 a3 arr D' τ S' w' → G (m + 1) S' w' → RM S' k' n' → K23 a1 a2 a3 (nI (7 * m) + 7) τ k' n') : w_L_law_1928 L xs K23 a1 a2 a3 (nI (7 * m)) σ k n := by
  obtain ⟨r, S', w', e1, e2, g1⟩ := st
  have b := hG _ _ _ g1
  have hZ := mle e1
  obtain ⟨k1, n1, k2, n2, f1, f2, f3, f4, f5⟩ := rm_split hr hZ b
  unfold w_L_law_1928
  refine q_X11_standstills j.1 j.2.1 e1 (fun D' τ h X => ?_)
  intro he hf
  have j2 := j.cls h X hZ he hf
  refine gq_X12_standstills j2.2.2.1.1 (by rw [j2.2.2.1.2.1]; exact e2) (fun s hR hw => ?_)
  intro he hf
  have j3 := j2.mod hR hw he hf
  exact ⟨fun _ => hK _ _ _ _ _ _ j3 g1 (by unfold RM at *; have := hZ 61; have := hZ 62; omega), fun q => q rfl⟩

theorem e_28 {G : Nat → Ss → MS → Prop} (hG : GB G) {L m : Nat} {xs : Nat → Int32} {K23 : Nat → Nat → Nat → Int32 → St → Nat → Nat → Prop} {a1 a2 a3 : Nat} {arr : Nat → Nat} {D : Nat → Nat → Nat} {σ : St} {S : Ss} {w : MS} {k n : Nat} (hi : 7 * m + 7 ≤ L) (hL : L ≤ 3584) (st : STi G m S w (f_X11_lose (xs (nI (7 * m) + 1).toNatClampNeg) (xs (nI (7 * m) + 2).toNatClampNeg) (xs (nI (7 * m) + 3).toNatClampNeg)) (g_X12_lose (xs (nI (7 * m) + 1).toNatClampNeg) (xs (nI (7 * m) + 2).toNatClampNeg) (xs (nI (7 * m) + 3).toNatClampNeg)) [(1, 1), (2, 2)]) (j : J a1 a2 a3 arr D σ S w) (hr : RM S k n) (hK : ∀ D' τ S' w' k' n', J a1 a2 a3 arr D' τ S' w' → G (m + 1) S' w' → RM S' k' n' → K23 a1 a2 a3 (nI (7 * m) + 7) τ k' n') : w_L_law_1941 L xs K23 a1 a2 a3 (nI (7 * m)) σ k n := by
  obtain ⟨r, S', r', w', e1, e2, g1, hc⟩ := st
  have b := hG _ _ _ g1
  have hZ := mle e1
  obtain ⟨k1, n1, k2, n2, f1, f2, f3, f4, f5⟩ := rm_split hr hZ b
  have v1 : vp_in (nI (7 * m) + 1) L := vpi hi hL 1 (by decide) rfl
  have v2 : vp_in (nI (7 * m) + 2) L := vpi hi hL 2 (by decide) rfl
  have v3 : vp_in (nI (7 * m) + 3) L := vpi hi hL 3 (by decide) rfl
  unfold w_L_law_1941
  refine ⟨v1, v2, v3, k1, n1, k2, n2, f1, f2, l_lose j e1 f3 f4 (ρ := mI w' 0) (by
    rcases hc with q | q
    · exact Or.inl ⟨q.1, q.2.1⟩
    · exact Or.inr q) (fun D' τ j1 ho => ?_)⟩
  intro _ _
  refine ⟨v1, v2, v3, gq_X12_lose j1.2.2.1.1 (by rw [j1.2.2.1.2.1]; exact e2) (fun s hR hw => ?_)⟩
  intro he hf
  have j2 := j1.mod hR hw he hf
  unfold w_X12_thrown
  rw [j2.thr]
  intro _ _
  refine ⟨fun _ => ⟨fun _ => hK _ _ _ _ _ _ j2 g1 f5, fun z => ?_⟩, fun q => q rfl⟩
  have h0 : r.1 = 0 ∧ r.2 = r' := by
    rcases hc with q | ⟨c, -, q1, q2, q3, q4⟩
    · exact ⟨q.1, q.2.2⟩
    · exact absurd (q2.symm.trans z) q4
  rw [j1.mout hf, ho h0.1, h0.2, jc_rf]
  exact ⟨by rw [j2.2.2.2.2]; exact vp01, fun _ => hK _ _ _ _ _ _ j2 g1 f5, fun q => q rfl⟩

theorem e_29 {G : Nat → Ss → MS → Prop} (hG : GB G) {L m : Nat} {xs : Nat → Int32} {K23 : Nat → Nat → Nat → Int32 → St → Nat → Nat → Prop} {a1 a2 a3 : Nat} {arr : Nat → Nat} {D : Nat → Nat → Nat} {σ : St} {S : Ss} {w : MS} {k n : Nat} (hi : 7 * m + 7 ≤ L) (hL : L ≤ 3584) (st : STi G m S w (f_X11_count (xs (nI (7 * m) + 1).toNatClampNeg) (xs (nI (7 * m) + 2).toNatClampNeg)) (g_X12_count (xs (nI (7 * m) + 1).toNatClampNeg) (xs (nI (7 * m) + 2).toNatClampNeg)) [(1, 1)]) (j : J a1 a2 a3 arr D σ S w) (hr : RM S k n) (hK : ∀ D' τ S' w' k' n', J a1 a2 a3 arr D' τ S' w' → G (m + 1) S' w' → RM S' k' n' → K23 a1 a2 a3 (nI (7 * m) + 7) τ k' n') : w_L_law_2021 L xs K23 a1 a2 a3 (nI (7 * m)) σ k n := by
  obtain ⟨r, S', r', w', e1, e2, g1, hc⟩ := st
  have b := hG _ _ _ g1
  have hZ := mle e1
  obtain ⟨k1, n1, k2, n2, f1, f2, f3, f4, f5⟩ := rm_split hr hZ b
  have v1 : vp_in (nI (7 * m) + 1) L := vpi hi hL 1 (by decide) rfl
  have v2 : vp_in (nI (7 * m) + 2) L := vpi hi hL 2 (by decide) rfl
  unfold w_L_law_2021
  refine ⟨v1, v2, k1, n1, k2, n2, f1, f2, l_count j e1 f3 f4 (ρ := mI w' 0) (by
    rcases hc with q | q
    · exact Or.inl ⟨q.1, q.2.1⟩
    · exact Or.inr q) (fun D' τ j1 ho => ?_)⟩
  intro _ _
  refine ⟨v1, v2, gq_X12_count j1.2.2.1.1 (by rw [j1.2.2.1.2.1]; exact e2) (fun s hR hw => ?_)⟩
  intro he hf
  have j2 := j1.mod hR hw he hf
  unfold w_X12_thrown
  rw [j2.thr]
  intro _ _
  refine ⟨fun _ => ⟨fun _ => hK _ _ _ _ _ _ j2 g1 f5, fun z => ?_⟩, fun q => q rfl⟩
  have h0 : r.1 = 0 ∧ r.2 = r' := by
    rcases hc with q | ⟨c, -, q1, q2, q3, q4⟩
    · exact ⟨q.1, q.2.2⟩
    · exact absurd (q2.symm.trans z) q4
  rw [j1.mout hf, ho h0.1, h0.2, jc_rf]
  exact ⟨by rw [j2.2.2.2.2]; exact vp01, fun _ => hK _ _ _ _ _ _ j2 g1 f5, fun q => q rfl⟩

theorem e_30 {G : Nat → Ss → MS → Prop} (hG : GB G) {L m : Nat} {xs : Nat → Int32} {K23 : Nat → Nat → Nat → Int32 → St → Nat → Nat → Prop} {a1 a2 a3 : Nat} {arr : Nat → Nat} {D : Nat → Nat → Nat} {σ : St} {S : Ss} {w : MS} {k n : Nat} (hi : 7 * m + 7 ≤ L) (hL : L ≤ 3584) (st : STi G m S w (f_X11_find (xs (nI (7 * m) + 1).toNatClampNeg) (xs (nI (7 * m) + 2).toNatClampNeg) (xs (nI (7 * m) + 3).toNatClampNeg)) (g_X12_find (xs (nI (7 * m) + 1).toNatClampNeg) (xs (nI (7 * m) + 2).toNatClampNeg) (xs (nI (7 * m) + 3).toNatClampNeg)) [(1, 1), (2, 2)]) (j : J a1 a2 a3 arr D σ S w) (hr : RM S k n) (hK : ∀ D' τ S' w' k' n', J a1 a2 a3 arr D' τ S' w' → G (m + 1) S' w' → RM S' k' n' → K23 a1 a2 a3 (nI (7 * m) + 7) τ k' n') : w_L_law_2089 L xs K23 a1 a2 a3 (nI (7 * m)) σ k n := by
  obtain ⟨r, S', r', w', e1, e2, g1, hc⟩ := st
  have b := hG _ _ _ g1
  have hZ := mle e1
  obtain ⟨k1, n1, k2, n2, f1, f2, f3, f4, f5⟩ := rm_split hr hZ b
  have v1 : vp_in (nI (7 * m) + 1) L := vpi hi hL 1 (by decide) rfl
  have v2 : vp_in (nI (7 * m) + 2) L := vpi hi hL 2 (by decide) rfl
  have v3 : vp_in (nI (7 * m) + 3) L := vpi hi hL 3 (by decide) rfl
  unfold w_L_law_2089
  refine ⟨v1, v2, v3, k1, n1, k2, n2, f1, f2, l_find j e1 f3 f4 (ρ := mI w' 0) (by
    rcases hc with q | q
    · exact Or.inl ⟨q.1, q.2.1⟩
    · exact Or.inr q) (fun D' τ j1 ho => ?_)⟩
  intro _ _
  refine ⟨v1, v2, v3, gq_X12_find j1.2.2.1.1 (by rw [j1.2.2.1.2.1]; exact e2) (fun s hR hw => ?_)⟩
  intro he hf
  have j2 := j1.mod hR hw he hf
  unfold w_X12_thrown
  rw [j2.thr]
  intro _ _
  refine ⟨fun _ => ⟨fun _ => hK _ _ _ _ _ _ j2 g1 f5, fun z => ?_⟩, fun q => q rfl⟩
  have h0 : r.1 = 0 ∧ r.2 = r' := by
    rcases hc with q | ⟨c, -, q1, q2, q3, q4⟩
    · exact ⟨q.1, q.2.2⟩
    · exact absurd (q2.symm.trans z) q4
  rw [j1.mout hf, ho h0.1, h0.2, jc_rf]
  exact ⟨by rw [j2.2.2.2.2]; exact vp01, fun _ => hK _ _ _ _ _ _ j2 g1 f5, fun q => q rfl⟩

theorem e_31 {G : Nat → Ss → MS → Prop} (hG : GB G) {L m : Nat} {xs : Nat → Int32} {K23 : Nat → Nat → Nat → Int32 → St → Nat → Nat → Prop} {a1 a2 a3 : Nat} {arr : Nat → Nat} {D : Nat → Nat → Nat} {σ : St} {S : Ss} {w : MS} {k n : Nat} (hi : 7 * m + 7 ≤ L) (hL : L ≤ 3584) (st : STi G m S w (f_X11_boxes (xs (nI (7 * m) + 1).toNatClampNeg)) (g_X12_boxes (xs (nI (7 * m) + 1).toNatClampNeg)) [(1, 1)]) (j : J a1 a2 a3 arr D σ S w) (hr : RM S k n) (hK : ∀ D' τ S' w' k' n', J a1 a2 a3 arr D' τ S' w' → G (m + 1) S' w' → RM S' k' n' → K23 a1 a2 a3 (nI (7 * m) + 7) τ k' n') : w_L_law_2169 L xs K23 a1 a2 a3 (nI (7 * m)) σ k n := by
  obtain ⟨r, S', r', w', e1, e2, g1, hc⟩ := st
  have b := hG _ _ _ g1
  have hZ := mle e1
  obtain ⟨k1, n1, k2, n2, f1, f2, f3, f4, f5⟩ := rm_split hr hZ b
  have v1 : vp_in (nI (7 * m) + 1) L := vpi hi hL 1 (by decide) rfl
  unfold w_L_law_2169
  refine ⟨v1, k1, n1, k2, n2, f1, f2, l_boxes j e1 f3 f4 (ρ := mI w' 0) (by
    rcases hc with q | q
    · exact Or.inl ⟨q.1, q.2.1⟩
    · exact Or.inr q) (fun D' τ j1 ho => ?_)⟩
  intro _ _
  refine ⟨v1, gq_X12_boxes j1.2.2.1.1 (by rw [j1.2.2.1.2.1]; exact e2) (fun s hR hw => ?_)⟩
  intro he hf
  have j2 := j1.mod hR hw he hf
  unfold w_X12_thrown
  rw [j2.thr]
  intro _ _
  refine ⟨fun _ => ⟨fun _ => hK _ _ _ _ _ _ j2 g1 f5, fun z => ?_⟩, fun q => q rfl⟩
  have h0 : r.1 = 0 ∧ r.2 = r' := by
    rcases hc with q | ⟨c, -, q1, q2, q3, q4⟩
    · exact ⟨q.1, q.2.2⟩
    · exact absurd (q2.symm.trans z) q4
  rw [j1.mout hf, ho h0.1, h0.2, jc_rf]
  exact ⟨by rw [j2.2.2.2.2]; exact vp01, fun _ => hK _ _ _ _ _ _ j2 g1 f5, fun q => q rfl⟩

theorem e_32 {G : Nat → Ss → MS → Prop} (hG : GB G) {L m : Nat} {xs : Nat → Int32} {K23 : Nat → Nat → Nat → Int32 → St → Nat → Nat → Prop} {a1 a2 a3 : Nat} {arr : Nat → Nat} {D : Nat → Nat → Nat} {σ : St} {S : Ss} {w : MS} {k n : Nat} (hi : 7 * m + 7 ≤ L) (hL : L ≤ 3584) (st : STi G m S w (f_X11_boxAt (xs (nI (7 * m) + 1).toNatClampNeg) (xs (nI (7 * m) + 2).toNatClampNeg)) (g_X12_boxAt (xs (nI (7 * m) + 1).toNatClampNeg) (xs (nI (7 * m) + 2).toNatClampNeg)) [(1, 1)]) (j : J a1 a2 a3 arr D σ S w) (hr : RM S k n) (hK : ∀ D' τ S' w' k' n', J a1 a2 a3 arr D' τ S' w' → G (m + 1) S' w' → RM S' k' n' → K23 a1 a2 a3 (nI (7 * m) + 7) τ k' n') : w_L_law_2225 L xs K23 a1 a2 a3 (nI (7 * m)) σ k n := by
  obtain ⟨r, S', r', w', e1, e2, g1, hc⟩ := st
  have b := hG _ _ _ g1
  have hZ := mle e1
  obtain ⟨k1, n1, k2, n2, f1, f2, f3, f4, f5⟩ := rm_split hr hZ b
  have v1 : vp_in (nI (7 * m) + 1) L := vpi hi hL 1 (by decide) rfl
  have v2 : vp_in (nI (7 * m) + 2) L := vpi hi hL 2 (by decide) rfl
  unfold w_L_law_2225
  refine ⟨v1, v2, k1, n1, k2, n2, f1, f2, l_boxAt j e1 f3 f4 (ρ := mI w' 0) (by
    rcases hc with q | q
    · exact Or.inl ⟨q.1, q.2.1⟩
    · exact Or.inr q) (fun D' τ j1 ho => ?_)⟩
  intro _ _
  refine ⟨v1, v2, gq_X12_boxAt j1.2.2.1.1 (by rw [j1.2.2.1.2.1]; exact e2) (fun s hR hw => ?_)⟩
  intro he hf
  have j2 := j1.mod hR hw he hf
  unfold w_X12_thrown
  rw [j2.thr]
  intro _ _
  refine ⟨fun _ => ⟨fun _ => hK _ _ _ _ _ _ j2 g1 f5, fun z => ?_⟩, fun q => q rfl⟩
  have h0 : r.1 = 0 ∧ r.2 = r' := by
    rcases hc with q | ⟨c, -, q1, q2, q3, q4⟩
    · exact ⟨q.1, q.2.2⟩
    · exact absurd (q2.symm.trans z) q4
  rw [j1.mout hf, ho h0.1, h0.2, jc_rf]
  exact ⟨by rw [j2.2.2.2.2]; exact vp01, fun _ => hK _ _ _ _ _ _ j2 g1 f5, fun q => q rfl⟩

theorem e_33 {G : Nat → Ss → MS → Prop} (hG : GB G) {L m : Nat} {xs : Nat → Int32} {K23 : Nat → Nat → Nat → Int32 → St → Nat → Nat → Prop} {a1 a2 a3 : Nat} {arr : Nat → Nat} {D : Nat → Nat → Nat} {σ : St} {S : Ss} {w : MS} {k n : Nat} (hi : 7 * m + 7 ≤ L) (hL : L ≤ 3584) (st : STi G m S w (f_X11_send (xs (nI (7 * m) + 1).toNatClampNeg)) (g_X12_send (xs (nI (7 * m) + 1).toNatClampNeg)) [(1, 1), (3, 2)]) (j : J a1 a2 a3 arr D σ S w) (hr : RM S k n) (hK : ∀ D' τ S' w' k' n', J a1 a2 a3 arr D' τ S' w' → G (m + 1) S' w' → RM S' k' n' → K23 a1 a2 a3 (nI (7 * m) + 7) τ k' n') : w_L_law_2293 L xs K23 a1 a2 a3 (nI (7 * m)) σ k n := by
  obtain ⟨r, S', r', w', e1, e2, g1, hc⟩ := st
  have b := hG _ _ _ g1
  have hZ := mle e1
  obtain ⟨k1, n1, k2, n2, f1, f2, f3, f4, f5⟩ := rm_split hr hZ b
  have v1 : vp_in (nI (7 * m) + 1) L := vpi hi hL 1 (by decide) rfl
  unfold w_L_law_2293
  refine ⟨v1, k1, n1, k2, n2, f1, f2, l_send j e1 f3 f4 (ρ := mI w' 0) (by
    rcases hc with q | q
    · exact Or.inl ⟨q.1, q.2.1⟩
    · exact Or.inr q) (fun D' τ j1 ho => ?_)⟩
  intro _ _
  refine ⟨v1, gq_X12_send j1.2.2.1.1 (by rw [j1.2.2.1.2.1]; exact e2) (fun s hR hw => ?_)⟩
  intro he hf
  have j2 := j1.mod hR hw he hf
  unfold w_X12_thrown
  rw [j2.thr]
  intro _ _
  refine ⟨fun _ => ⟨fun _ => hK _ _ _ _ _ _ j2 g1 f5, fun z => ?_⟩, fun q => q rfl⟩
  have h0 : r.1 = 0 ∧ r.2 = r' := by
    rcases hc with q | ⟨c, -, q1, q2, q3, q4⟩
    · exact ⟨q.1, q.2.2⟩
    · exact absurd (q2.symm.trans z) q4
  rw [j1.mout hf, ho h0.1, h0.2, jc_rf]
  exact ⟨by rw [j2.2.2.2.2]; exact vp01, fun _ => hK _ _ _ _ _ _ j2 g1 f5, fun q => q rfl⟩

theorem e_34 {G : Nat → Ss → MS → Prop} (hG : GB G) {L m : Nat} {xs : Nat → Int32} {K23 : Nat → Nat → Nat → Int32 → St → Nat → Nat → Prop} {a1 a2 a3 : Nat} {arr : Nat → Nat} {D : Nat → Nat → Nat} {σ : St} {S : Ss} {w : MS} {k n : Nat} (hi : 7 * m + 7 ≤ L) (hL : L ≤ 3584) (st : STi G m S w (f_X11_sent (xs (nI (7 * m) + 1).toNatClampNeg) (xs (nI (7 * m) + 2).toNatClampNeg)) (g_X12_sent (xs (nI (7 * m) + 1).toNatClampNeg) (xs (nI (7 * m) + 2).toNatClampNeg)) [(1, 1)]) (j : J a1 a2 a3 arr D σ S w) (hr : RM S k n) (hK : ∀ D' τ S' w' k' n', J a1 a2 a3 arr D' τ S' w' → G (m + 1) S' w' → RM S' k' n' → K23 a1 a2 a3 (nI (7 * m) + 7) τ k' n') : w_L_law_2349 L xs K23 a1 a2 a3 (nI (7 * m)) σ k n := by
  obtain ⟨r, S', r', w', e1, e2, g1, hc⟩ := st
  have b := hG _ _ _ g1
  have hZ := mle e1
  obtain ⟨k1, n1, k2, n2, f1, f2, f3, f4, f5⟩ := rm_split hr hZ b
  have v1 : vp_in (nI (7 * m) + 1) L := vpi hi hL 1 (by decide) rfl
  have v2 : vp_in (nI (7 * m) + 2) L := vpi hi hL 2 (by decide) rfl
  unfold w_L_law_2349
  refine ⟨v1, v2, k1, n1, k2, n2, f1, f2, l_sent j e1 f3 f4 (ρ := mI w' 0) (by
    rcases hc with q | q
    · exact Or.inl ⟨q.1, q.2.1⟩
    · exact Or.inr q) (fun D' τ j1 ho => ?_)⟩
  intro _ _
  refine ⟨v1, v2, gq_X12_sent j1.2.2.1.1 (by rw [j1.2.2.1.2.1]; exact e2) (fun s hR hw => ?_)⟩
  intro he hf
  have j2 := j1.mod hR hw he hf
  unfold w_X12_thrown
  rw [j2.thr]
  intro _ _
  refine ⟨fun _ => ⟨fun _ => hK _ _ _ _ _ _ j2 g1 f5, fun z => ?_⟩, fun q => q rfl⟩
  have h0 : r.1 = 0 ∧ r.2 = r' := by
    rcases hc with q | ⟨c, -, q1, q2, q3, q4⟩
    · exact ⟨q.1, q.2.2⟩
    · exact absurd (q2.symm.trans z) q4
  rw [j1.mout hf, ho h0.1, h0.2, jc_rf]
  exact ⟨by rw [j2.2.2.2.2]; exact vp01, fun _ => hK _ _ _ _ _ _ j2 g1 f5, fun q => q rfl⟩

theorem e_35 {G : Nat → Ss → MS → Prop} (hG : GB G) {L m : Nat} {xs : Nat → Int32} {K23 : Nat → Nat → Nat → Int32 → St → Nat → Nat → Prop} {a1 a2 a3 : Nat} {arr : Nat → Nat} {D : Nat → Nat → Nat} {σ : St} {S : Ss} {w : MS} {k n : Nat} (hi : 7 * m + 7 ≤ L) (hL : L ≤ 3584) (st : STi G m S w (f_X11_received (xs (nI (7 * m) + 1).toNatClampNeg) (xs (nI (7 * m) + 2).toNatClampNeg)) (g_X12_received (xs (nI (7 * m) + 1).toNatClampNeg) (xs (nI (7 * m) + 2).toNatClampNeg)) [(1, 1)]) (j : J a1 a2 a3 arr D σ S w) (hr : RM S k n) (hK : ∀ D' τ S' w' k' n', J a1 a2 a3 arr D' τ S' w' → G (m + 1) S' w' → RM S' k' n' → K23 a1 a2 a3 (nI (7 * m) + 7) τ k' n') : w_L_law_2417 L xs K23 a1 a2 a3 (nI (7 * m)) σ k n := by
  obtain ⟨r, S', r', w', e1, e2, g1, hc⟩ := st
  have b := hG _ _ _ g1
  have hZ := mle e1
  obtain ⟨k1, n1, k2, n2, f1, f2, f3, f4, f5⟩ := rm_split hr hZ b
  have v1 : vp_in (nI (7 * m) + 1) L := vpi hi hL 1 (by decide) rfl
  have v2 : vp_in (nI (7 * m) + 2) L := vpi hi hL 2 (by decide) rfl
  unfold w_L_law_2417
  refine ⟨v1, v2, k1, n1, k2, n2, f1, f2, l_received j e1 f3 f4 (ρ := mI w' 0) (by
    rcases hc with q | q
    · exact Or.inl ⟨q.1, q.2.1⟩
    · exact Or.inr q) (fun D' τ j1 ho => ?_)⟩
  intro _ _
  refine ⟨v1, v2, gq_X12_received j1.2.2.1.1 (by rw [j1.2.2.1.2.1]; exact e2) (fun s hR hw => ?_)⟩
  intro he hf
  have j2 := j1.mod hR hw he hf
  unfold w_X12_thrown
  rw [j2.thr]
  intro _ _
  refine ⟨fun _ => ⟨fun _ => hK _ _ _ _ _ _ j2 g1 f5, fun z => ?_⟩, fun q => q rfl⟩
  have h0 : r.1 = 0 ∧ r.2 = r' := by
    rcases hc with q | ⟨c, -, q1, q2, q3, q4⟩
    · exact ⟨q.1, q.2.2⟩
    · exact absurd (q2.symm.trans z) q4
  rw [j1.mout hf, ho h0.1, h0.2, jc_rf]
  exact ⟨by rw [j2.2.2.2.2]; exact vp01, fun _ => hK _ _ _ _ _ _ j2 g1 f5, fun q => q rfl⟩

theorem e_36 {G : Nat → Ss → MS → Prop} (hG : GB G) {L m : Nat} {xs : Nat → Int32} {K23 : Nat → Nat → Nat → Int32 → St → Nat → Nat → Prop} {a1 a2 a3 : Nat} {arr : Nat → Nat} {D : Nat → Nat → Nat} {σ : St} {S : Ss} {w : MS} {k n : Nat} (hi : 7 * m + 7 ≤ L) (hL : L ≤ 3584) (st : STi G m S w (f_X11_comeBack (xs (nI (7 * m) + 1).toNatClampNeg) (xs (nI (7 * m) + 2).toNatClampNeg) (xs (nI (7 * m) + 3).toNatClampNeg)) (g_X12_comeBack (xs (nI (7 * m) + 1).toNatClampNeg) (xs (nI (7 * m) + 2).toNatClampNeg) (xs (nI (7 * m) + 3).toNatClampNeg)) [(1, 1), (2, 2), (3, 3)]) (j : J a1 a2 a3 arr D σ S w) (hr : RM S k n) (hK : ∀ D' τ S' w' k' n', J a1 a2 a3 arr D' τ S' w' → G (m + 1) S' w' → RM S' k' n' → K23 a1 a2 a3 (nI (7 * m) + 7) τ k' n') : w_L_law_2485 L xs K23 a1 a2 a3 (nI (7 * m)) σ k n := by
  obtain ⟨r, S', r', w', e1, e2, g1, hc⟩ := st
  have b := hG _ _ _ g1
  have hZ := mle e1
  obtain ⟨k1, n1, k2, n2, f1, f2, f3, f4, f5⟩ := rm_split hr hZ b
  have v1 : vp_in (nI (7 * m) + 1) L := vpi hi hL 1 (by decide) rfl
  have v2 : vp_in (nI (7 * m) + 2) L := vpi hi hL 2 (by decide) rfl
  have v3 : vp_in (nI (7 * m) + 3) L := vpi hi hL 3 (by decide) rfl
  unfold w_L_law_2485
  refine ⟨v1, v2, v3, k1, n1, k2, n2, f1, f2, l_comeBack j e1 f3 f4 (ρ := mI w' 0) (by
    rcases hc with q | q
    · exact Or.inl ⟨q.1, q.2.1⟩
    · exact Or.inr q) (fun D' τ j1 ho => ?_)⟩
  intro _ _
  refine ⟨v1, v2, v3, gq_X12_comeBack j1.2.2.1.1 (by rw [j1.2.2.1.2.1]; exact e2) (fun s hR hw => ?_)⟩
  intro he hf
  have j2 := j1.mod hR hw he hf
  unfold w_X12_thrown
  rw [j2.thr]
  intro _ _
  refine ⟨fun _ => ⟨fun _ => hK _ _ _ _ _ _ j2 g1 f5, fun z => ?_⟩, fun q => q rfl⟩
  have h0 : r.1 = 0 ∧ r.2 = r' := by
    rcases hc with q | ⟨c, -, q1, q2, q3, q4⟩
    · exact ⟨q.1, q.2.2⟩
    · exact absurd (q2.symm.trans z) q4
  rw [j1.mout hf, ho h0.1, h0.2, jc_rf]
  exact ⟨by rw [j2.2.2.2.2]; exact vp01, fun _ => hK _ _ _ _ _ _ j2 g1 f5, fun q => q rfl⟩

theorem e_37 {G : Nat → Ss → MS → Prop} (hG : GB G) {L m : Nat} {xs : Nat → Int32} {K23 : Nat → Nat → Nat → Int32 → St → Nat → Nat → Prop} {a1 a2 a3 : Nat} {arr : Nat → Nat} {D : Nat → Nat → Nat} {σ : St} {S : Ss} {w : MS} {k n : Nat} (hi : 7 * m + 7 ≤ L) (hL : L ≤ 3584) (st0 : (xs (nI (7 * m) + 3).toNatClampNeg) = 0 → STi G m S w (f_X11_judge (xs (nI (7 * m) + 1).toNatClampNeg) (xs (nI (7 * m) + 2).toNatClampNeg) 0) (g_X12_judge (xs (nI (7 * m) + 1).toNatClampNeg) (xs (nI (7 * m) + 2).toNatClampNeg) 0) [(1, 1), (2, 2), (3, 3)]) (st1 : ¬ (xs (nI (7 * m) + 3).toNatClampNeg) = 0 → STi G m S w (f_X11_judge (xs (nI (7 * m) + 1).toNatClampNeg) (xs (nI (7 * m) + 2).toNatClampNeg) 1) (g_X12_judge (xs (nI (7 * m) + 1).toNatClampNeg) (xs (nI (7 * m) + 2).toNatClampNeg) 1) [(1, 1), (2, 2), (3, 3)]) (j : J a1 a2 a3 arr D σ S w) (hr : RM S k n) (hK : ∀ D' τ S' w' k' n', J a1 a2 a3 arr D' τ S' w' → G (m + 1) S' w' → RM S' k' n' → K23 a1 a2 a3 (nI (7 * m) + 7) τ k' n') : w_L_law_2565 L xs K23 a1 a2 a3 (nI (7 * m)) σ k n := by
  have v1 : vp_in (nI (7 * m) + 1) L := vpi hi hL 1 (by decide) rfl
  have v2 : vp_in (nI (7 * m) + 2) L := vpi hi hL 2 (by decide) rfl
  have v3 : vp_in (nI (7 * m) + 3) L := vpi hi hL 3 (by decide) rfl
  unfold w_L_law_2565
  refine ⟨v1, v2, v3, fun z => ?_, fun z => ?_⟩
  · obtain ⟨r, S', r', w', e1, e2, g1, hc⟩ := st0 z
    have b := hG _ _ _ g1
    have hZ := mle e1
    obtain ⟨k1, n1, k2, n2, f1, f2, f3, f4, f5⟩ := rm_split hr hZ b
    unfold w_L_law_2592
    refine ⟨k1, n1, k2, n2, f1, f2, l_judge j e1 f3 f4 (ρ := mI w' 0) (by
      rcases hc with q | q
      · exact Or.inl ⟨q.1, q.2.1⟩
      · exact Or.inr q) (fun D' τ j1 ho => ?_)⟩
    intro _ _
    refine ⟨v1, v2, v3, fun _ => ?_, fun q => absurd z q⟩
    unfold w_L_law_2625
    refine  gq_X12_judge j1.2.2.1.1 (by rw [j1.2.2.1.2.1]; exact e2) (fun s hR hw => ?_)
    intro he hf
    have j2 := j1.mod hR hw he hf
    unfold w_X12_thrown
    rw [j2.thr]
    intro _ _
    refine ⟨fun _ => ⟨fun _ => hK _ _ _ _ _ _ j2 g1 f5, fun z0 => ?_⟩, fun q => q rfl⟩
    have h0 : r.1 = 0 ∧ r.2 = r' := by
      rcases hc with q | ⟨c, -, q1, q2, q3, q4⟩
      · exact ⟨q.1, q.2.2⟩
      · exact absurd (q2.symm.trans z0) q4
    rw [j1.mout hf, ho h0.1, h0.2, jc_rf]
    exact ⟨by rw [j2.2.2.2.2]; exact vp01, fun _ => hK _ _ _ _ _ _ j2 g1 f5, fun q => q rfl⟩
  · obtain ⟨r, S', r', w', e1, e2, g1, hc⟩ := st1 z
    have b := hG _ _ _ g1
    have hZ := mle e1
    obtain ⟨k1, n1, k2, n2, f1, f2, f3, f4, f5⟩ := rm_split hr hZ b
    unfold w_L_law_2592
    refine ⟨k1, n1, k2, n2, f1, f2, l_judge j e1 f3 f4 (ρ := mI w' 0) (by
      rcases hc with q | q
      · exact Or.inl ⟨q.1, q.2.1⟩
      · exact Or.inr q) (fun D' τ j1 ho => ?_)⟩
    intro _ _
    refine ⟨v1, v2, v3, fun q => absurd q z, fun _ => ?_⟩
    unfold w_L_law_2625
    refine  gq_X12_judge j1.2.2.1.1 (by rw [j1.2.2.1.2.1]; exact e2) (fun s hR hw => ?_)
    intro he hf
    have j2 := j1.mod hR hw he hf
    unfold w_X12_thrown
    rw [j2.thr]
    intro _ _
    refine ⟨fun _ => ⟨fun _ => hK _ _ _ _ _ _ j2 g1 f5, fun z0 => ?_⟩, fun q => q rfl⟩
    have h0 : r.1 = 0 ∧ r.2 = r' := by
      rcases hc with q | ⟨c, -, q1, q2, q3, q4⟩
      · exact ⟨q.1, q.2.2⟩
      · exact absurd (q2.symm.trans z0) q4
    rw [j1.mout hf, ho h0.1, h0.2, jc_rf]
    exact ⟨by rw [j2.2.2.2.2]; exact vp01, fun _ => hK _ _ _ _ _ _ j2 g1 f5, fun q => q rfl⟩

theorem e_38 {G : Nat → Ss → MS → Prop} (hG : GB G) {L m : Nat} {xs : Nat → Int32} {K23 : Nat → Nat → Nat → Int32 → St → Nat → Nat → Prop} {a1 a2 a3 : Nat} {arr : Nat → Nat} {D : Nat → Nat → Nat} {σ : St} {S : Ss} {w : MS} {k n : Nat} (hi : 7 * m + 7 ≤ L) (hL : L ≤ 3584) (st : STi G m S w (f_X11_recall (xs (nI (7 * m) + 1).toNatClampNeg)) (g_X12_recall (xs (nI (7 * m) + 1).toNatClampNeg)) [(1, 1), (3, 2)]) (j : J a1 a2 a3 arr D σ S w) (hr : RM S k n) (hK : ∀ D' τ S' w' k' n', J a1 a2 a3 arr D' τ S' w' → G (m + 1) S' w' → RM S' k' n' → K23 a1 a2 a3 (nI (7 * m) + 7) τ k' n') : w_L_law_2661 L xs K23 a1 a2 a3 (nI (7 * m)) σ k n := by
  obtain ⟨r, S', r', w', e1, e2, g1, hc⟩ := st
  have b := hG _ _ _ g1
  have hZ := mle e1
  obtain ⟨k1, n1, k2, n2, f1, f2, f3, f4, f5⟩ := rm_split hr hZ b
  have v1 : vp_in (nI (7 * m) + 1) L := vpi hi hL 1 (by decide) rfl
  unfold w_L_law_2661
  refine ⟨v1, k1, n1, k2, n2, f1, f2, l_recall j e1 f3 f4 (ρ := mI w' 0) (by
    rcases hc with q | q
    · exact Or.inl ⟨q.1, q.2.1⟩
    · exact Or.inr q) (fun D' τ j1 ho => ?_)⟩
  intro _ _
  refine ⟨v1, gq_X12_recall j1.2.2.1.1 (by rw [j1.2.2.1.2.1]; exact e2) (fun s hR hw => ?_)⟩
  intro he hf
  have j2 := j1.mod hR hw he hf
  unfold w_X12_thrown
  rw [j2.thr]
  intro _ _
  refine ⟨fun _ => ⟨fun _ => hK _ _ _ _ _ _ j2 g1 f5, fun z => ?_⟩, fun q => q rfl⟩
  have h0 : r.1 = 0 ∧ r.2 = r' := by
    rcases hc with q | ⟨c, -, q1, q2, q3, q4⟩
    · exact ⟨q.1, q.2.2⟩
    · exact absurd (q2.symm.trans z) q4
  rw [j1.mout hf, ho h0.1, h0.2, jc_rf]
  exact ⟨by rw [j2.2.2.2.2]; exact vp01, fun _ => hK _ _ _ _ _ _ j2 g1 f5, fun q => q rfl⟩

theorem e_39 {G : Nat → Ss → MS → Prop} (hG : GB G) {L m : Nat} {xs : Nat → Int32} {K23 : Nat → Nat → Nat → Int32 → St → Nat → Nat → Prop} {a1 a2 a3 : Nat} {arr : Nat → Nat} {D : Nat → Nat → Nat} {σ : St} {S : Ss} {w : MS} {k n : Nat} (hi : 7 * m + 7 ≤ L) (hL : L ≤ 3584) (st : STn G m S w (f_X11_bill) (g_X12_bill)) (j : J a1 a2 a3 arr D σ S w) (hr : RM S k n) (hK : ∀ D' τ S' w' k' n', J a1 a2 a3 arr D' τ S' w' → G (m + 1) S' w' → RM S' k' n' → K23 a1 a2 a3 (nI (7 * m) + 7) τ k' n') : w_L_law_2717 L xs K23 a1 a2 a3 (nI (7 * m)) σ k n := by
  obtain ⟨r, S', w', e1, e2, g1⟩ := st
  have b := hG _ _ _ g1
  have hZ := mle e1
  obtain ⟨k1, n1, k2, n2, f1, f2, f3, f4, f5⟩ := rm_split hr hZ b
  unfold w_L_law_2717
  refine q_X11_bill j.1 j.2.1 e1 (fun D' τ h X => ?_)
  intro he hf
  have j2 := j.cls h X hZ he hf
  refine gq_X12_bill j2.2.2.1.1 (by rw [j2.2.2.1.2.1]; exact e2) (fun s hR hw => ?_)
  intro he hf
  have j3 := j2.mod hR hw he hf
  exact ⟨fun _ => hK _ _ _ _ _ _ j3 g1 (by unfold RM at *; have := hZ 61; have := hZ 62; omega), fun q => q rfl⟩

theorem lw_sub {L : Nat} (hL : L ≤ 3584) : (nI L - 7).toInt = (L : Int) - 7 := by
  rw [show (7 : Int32) = nI 7 from rfl]; exact pk_sub_toInt (by omega) (by decide)
theorem lw_end {L m : Nat} (hL : L ≤ 3584) (h : L < 7 * m + 7) (hm : m ≤ 513) : nI L - 7 < nI (7 * m) := by
  rw [Int32.lt_iff_toInt_lt, lw_sub hL, nI_toInt (by omega)]; omega
theorem lw_in {L m : Nat} (h : 7 * m + 7 ≤ L) (hL : L ≤ 3584) : ¬ nI L - 7 < nI (7 * m) := by
  rw [Int32.lt_iff_toInt_lt, lw_sub hL, nI_toInt (by omega)]; omega
set_option maxHeartbeats 1000000 in
theorem law_loop {G : Nat → Ss → MS → Prop} (hG : GB G) (hN : ∀ m S w, m < 512 → G m S w → G (m + 1) S w) (h0 : ∀ m S w (x0 x1 x2 : Int32), m < 512 → G m S w → STv G m S w (f_X11_slot x0 x1 x2) (g_X12_slot x0 x1 x2) [(1, 1), (2, 2), (3, 3)]) (h1 : ∀ m S w (x0 x1 x2 x3 : Int32), m < 512 → G m S w → STv G m S w (f_X11_face x0 x1 x2 x3) (g_X12_face x0 x1 x2 x3) [(1, 1), (2, 2), (3, 3)]) (h2 : ∀ m S w (x0 x1 x2 x3 x4 x5 : Int32), m < 512 → G m S w → STv G m S w (f_X11_item x0 x1 x2 x3 x4 x5) (g_X12_item x0 x1 x2 x3 x4 x5) [(1, 1), (2, 2), (3, 3)]) (h3 : ∀ m S w (x0 x1 x2 : Int32), m < 512 → G m S w → (x2 = 0 ∨ x2 = 1) → STi G m S w (f_X11_bar x0 x1 x2) (g_X12_bar x0 x1 x2) [(1, 1)]) (h4 : ∀ m S w (x0 x1 : Int32), m < 512 → G m S w → STi G m S w (f_X11_lot x0 x1) (g_X12_lot x0 x1) [(1, 1), (2, 2), (3, 3)]) (h5 : ∀ m S w (x0 x1 : Int32), m < 512 → G m S w → STi G m S w (f_X11_stock x0 x1) (g_X12_stock x0 x1) [(1, 1)]) (h6 : ∀ m S w (x0 x1 : Int32), m < 512 → G m S w → STi G m S w (f_X11_stockAnew x0 x1) (g_X12_stockAnew x0 x1) [(1, 1)]) (h7 : ∀ m S w (x0 x1 : Int32), m < 512 → G m S w → STi G m S w (f_X11_free x0 x1) (g_X12_free x0 x1) [(1, 1)]) (h8 : ∀ m S w (x0 : Int32), m < 512 → G m S w → STi G m S w (f_X11_room x0) (g_X12_room x0) [(1, 1)]) (h9 : ∀ m S w (x0 x1 : Int32), m < 512 → G m S w → STi G m S w (f_X11_notice x0 x1) (g_X12_notice x0 x1) [(1, 1), (2, 2), (3, 3)]) (h10 : ∀ m S w (x0 x1 x2 : Int32), m < 512 → G m S w → STi G m S w (f_X11_receive x0 x1 x2) (g_X12_receive x0 x1 x2) [(1, 1), (2, 2), (3, 3)]) (h11 : ∀ m S w (x0 : Int32), m < 512 → G m S w → STi G m S w (f_X11_close x0) (g_X12_close x0) [(1, 1), (3, 2)]) (h12 : ∀ m S w (x0 : Int32), m < 512 → G m S w → STi G m S w (f_X11_others x0) (g_X12_others x0) [(1, 1)]) (h13 : ∀ m S w (x0 x1 : Int32), m < 512 → G m S w → STi G m S w (f_X11_putAway x0 x1) (g_X12_putAway x0 x1) [(1, 1), (2, 2), (3, 3)]) (h14 : ∀ m S w, m < 512 → G m S w → STn G m S w (f_X11_refill) (g_X12_refill)) (h15 : ∀ m S w (x0 x1 x2 : Int32), m < 512 → G m S w → (x1 = 0 ∨ x1 = 1) → STi G m S w (f_X11_order x0 x1 x2) (g_X12_order x0 x1 x2) [(2, 1), (3, 2)]) (h16 : ∀ m S w (x0 x1 x2 : Int32), m < 512 → G m S w → STi G m S w (f_X11_line x0 x1 x2) (g_X12_line x0 x1 x2) [(1, 1), (2, 2), (3, 3)]) (h17 : ∀ m S w, m < 512 → G m S w → STn G m S w (f_X11_allocate) (g_X12_allocate)) (h18 : ∀ m S w (x0 x1 : Int32), m < 512 → G m S w → STi G m S w (f_X11_lacks x0 x1) (g_X12_lacks x0 x1) [(1, 1)]) (h19 : ∀ m S w (x0 x1 x2 : Int32), m < 512 → G m S w → STi G m S w (f_X11_held x0 x1 x2) (g_X12_held x0 x1 x2) [(1, 1)]) (h20 : ∀ m S w (x0 x1 : Int32), m < 512 → G m S w → STi G m S w (f_X11_wave x0 x1) (g_X12_wave x0 x1) [(1, 1), (2, 2), (3, 3)]) (h21 : ∀ m S w (x0 x1 : Int32), m < 512 → G m S w → STi G m S w (f_X11_give x0 x1) (g_X12_give x0 x1) [(1, 1), (3, 2)]) (h22 : ∀ m S w (x0 : Int32), m < 512 → G m S w → STi G m S w (f_X11_pass x0) (g_X12_pass x0) [(2, 1)]) (h23 : ∀ m S w (x0 : Int32), m < 512 → G m S w → STi G m S w (f_X11_where x0) (g_X12_where x0) [(1, 1)]) (h24 : ∀ m S w (x0 : Int32), m < 512 → G m S w → STi G m S w (f_X11_doing x0) (g_X12_doing x0) [(1, 1)]) (h25 : ∀ m S w, m < 512 → G m S w → STn G m S w (f_X11_tasks) (g_X12_tasks)) (h26 : ∀ m S w (x0 : Int32), m < 512 → G m S w → STi G m S w (f_X11_taskAt x0) (g_X12_taskAt x0) [(1, 1)]) (h27 : ∀ m S w, m < 512 → G m S w → STn G m S w (f_X11_standstills) (g_X12_standstills)) (h28 : ∀ m S w (x0 x1 x2 : Int32), m < 512 → G m S w → STi G m S w (f_X11_lose x0 x1 x2) (g_X12_lose x0 x1 x2) [(1, 1), (2, 2)]) (h29 : ∀ m S w (x0 x1 : Int32), m < 512 → G m S w → STi G m S w (f_X11_count x0 x1) (g_X12_count x0 x1) [(1, 1)]) (h30 : ∀ m S w (x0 x1 x2 : Int32), m < 512 → G m S w → STi G m S w (f_X11_find x0 x1 x2) (g_X12_find x0 x1 x2) [(1, 1), (2, 2)]) (h31 : ∀ m S w (x0 : Int32), m < 512 → G m S w → STi G m S w (f_X11_boxes x0) (g_X12_boxes x0) [(1, 1)]) (h32 : ∀ m S w (x0 x1 : Int32), m < 512 → G m S w → STi G m S w (f_X11_boxAt x0 x1) (g_X12_boxAt x0 x1) [(1, 1)]) (h33 : ∀ m S w (x0 : Int32), m < 512 → G m S w → STi G m S w (f_X11_send x0) (g_X12_send x0) [(1, 1), (3, 2)]) (h34 : ∀ m S w (x0 x1 : Int32), m < 512 → G m S w → STi G m S w (f_X11_sent x0 x1) (g_X12_sent x0 x1) [(1, 1)]) (h35 : ∀ m S w (x0 x1 : Int32), m < 512 → G m S w → STi G m S w (f_X11_received x0 x1) (g_X12_received x0 x1) [(1, 1)]) (h36 : ∀ m S w (x0 x1 x2 : Int32), m < 512 → G m S w → STi G m S w (f_X11_comeBack x0 x1 x2) (g_X12_comeBack x0 x1 x2) [(1, 1), (2, 2), (3, 3)]) (h37 : ∀ m S w (x0 x1 x2 : Int32), m < 512 → G m S w → (x2 = 0 ∨ x2 = 1) → STi G m S w (f_X11_judge x0 x1 x2) (g_X12_judge x0 x1 x2) [(1, 1), (2, 2), (3, 3)]) (h38 : ∀ m S w (x0 : Int32), m < 512 → G m S w → STi G m S w (f_X11_recall x0) (g_X12_recall x0) [(1, 1), (3, 2)]) (h39 : ∀ m S w, m < 512 → G m S w → STn G m S w (f_X11_bill) (g_X12_bill)) {L : Nat} (hL : L ≤ 3584) {xs : Nat → Int32} {a1 a2 a3 : Nat} {arr : Nat → Nat} : ∀ d m, d + m = 513 → ∀ f, d ≤ f → ∀ D σ S w k n, J a1 a2 a3 arr D σ S w → G m S w → RM S k n → w_L_law_23 L xs (f + 1) a1 a2 a3 (nI (7 * m)) σ k n := by
  intro d
  induction d with
  | zero =>
    intro m hm f hf D σ S w k n j g hr
    unfold w_L_law_23
    refine ⟨fun _ => trivial, fun q => absurd ?_ q⟩
    show Int32.ofNat L - 7 < nI (7 * m)
    exact lw_end hL (by omega) (by omega)
  | succ d ih =>
    intro m hm f hf D σ S w k n j g hr
    unfold w_L_law_23
    by_cases hi : 7 * m + 7 ≤ L
    · refine ⟨fun q => absurd q (lw_in hi hL), fun _ => ?_⟩
      obtain ⟨f, rfl⟩ : ∃ f', f = f' + 1 := ⟨f - 1, by omega⟩
      have hm5 : m < 512 := by omega
      have e7 : nI (7 * m) + 7 = nI (7 * (m + 1)) := by rw [show (7 : Int32) = nI 7 from rfl, nI_add]; rfl
      have hK : ∀ D' τ S' w' k' n', J a1 a2 a3 arr D' τ S' w' → G (m + 1) S' w' → RM S' k' n' → w_L_law_23 L xs (f + 1) a1 a2 a3 (nI (7 * m) + 7) τ k' n' := fun D' τ S' w' k' n' j' g' r' => by
        rw [e7]; exact ih (m + 1) (by omega) f (by omega) D' τ S' w' k' n' j' g' r'
      refine ⟨vp_in_nI (by omega) (by omega), fun _ => hK D σ S w k n j (hN m S w hm5 g) hr, fun _ => ?_, fun _ => ?_, fun _ => ?_, fun _ => ?_, fun _ => ?_, fun _ => ?_, fun _ => ?_, fun _ => ?_, fun _ => ?_, fun _ => ?_, fun _ => ?_, fun _ => ?_, fun _ => ?_, fun _ => ?_, fun _ => ?_, fun _ => ?_, fun _ => ?_, fun _ => ?_, fun _ => ?_, fun _ => ?_, fun _ => ?_, fun _ => ?_, fun _ => ?_, fun _ => ?_, fun _ => ?_, fun _ => ?_, fun _ => ?_, fun _ => ?_, fun _ => ?_, fun _ => ?_, fun _ => ?_, fun _ => ?_, fun _ => ?_, fun _ => ?_, fun _ => ?_, fun _ => ?_, fun _ => ?_, fun _ => ?_, fun _ => ?_, fun _ => ?_⟩
      · exact e_0 hG hi hL (h0 m S w _ _ _ hm5 g) j hr hK
      · exact e_1 hG hi hL (h1 m S w _ _ _ _ hm5 g) j hr hK
      · exact e_2 hG hi hL (h2 m S w _ _ _ _ _ _ hm5 g) j hr hK
      · exact e_3 hG hi hL (fun _ => h3 m S w _ _ _ hm5 g (Or.inl rfl)) (fun _ => h3 m S w _ _ _ hm5 g (Or.inr rfl)) j hr hK
      · exact e_4 hG hi hL (h4 m S w _ _ hm5 g) j hr hK
      · exact e_5 hG hi hL (h5 m S w _ _ hm5 g) j hr hK
      · exact e_6 hG hi hL (h6 m S w _ _ hm5 g) j hr hK
      · exact e_7 hG hi hL (h7 m S w _ _ hm5 g) j hr hK
      · exact e_8 hG hi hL (h8 m S w _ hm5 g) j hr hK
      · exact e_9 hG hi hL (h9 m S w _ _ hm5 g) j hr hK
      · exact e_10 hG hi hL (h10 m S w _ _ _ hm5 g) j hr hK
      · exact e_11 hG hi hL (h11 m S w _ hm5 g) j hr hK
      · exact e_12 hG hi hL (h12 m S w _ hm5 g) j hr hK
      · exact e_13 hG hi hL (h13 m S w _ _ hm5 g) j hr hK
      · exact e_14 hG hi hL (h14 m S w hm5 g) j hr hK
      · exact e_15 hG hi hL (fun _ => h15 m S w _ _ _ hm5 g (Or.inl rfl)) (fun _ => h15 m S w _ _ _ hm5 g (Or.inr rfl)) j hr hK
      · exact e_16 hG hi hL (h16 m S w _ _ _ hm5 g) j hr hK
      · exact e_17 hG hi hL (h17 m S w hm5 g) j hr hK
      · exact e_18 hG hi hL (h18 m S w _ _ hm5 g) j hr hK
      · exact e_19 hG hi hL (h19 m S w _ _ _ hm5 g) j hr hK
      · exact e_20 hG hi hL (h20 m S w _ _ hm5 g) j hr hK
      · exact e_21 hG hi hL (h21 m S w _ _ hm5 g) j hr hK
      · exact e_22 hG hi hL (h22 m S w _ hm5 g) j hr hK
      · exact e_23 hG hi hL (h23 m S w _ hm5 g) j hr hK
      · exact e_24 hG hi hL (h24 m S w _ hm5 g) j hr hK
      · exact e_25 hG hi hL (h25 m S w hm5 g) j hr hK
      · exact e_26 hG hi hL (h26 m S w _ hm5 g) j hr hK
      · exact e_27 hG hi hL (h27 m S w hm5 g) j hr hK
      · exact e_28 hG hi hL (h28 m S w _ _ _ hm5 g) j hr hK
      · exact e_29 hG hi hL (h29 m S w _ _ hm5 g) j hr hK
      · exact e_30 hG hi hL (h30 m S w _ _ _ hm5 g) j hr hK
      · exact e_31 hG hi hL (h31 m S w _ hm5 g) j hr hK
      · exact e_32 hG hi hL (h32 m S w _ _ hm5 g) j hr hK
      · exact e_33 hG hi hL (h33 m S w _ hm5 g) j hr hK
      · exact e_34 hG hi hL (h34 m S w _ _ hm5 g) j hr hK
      · exact e_35 hG hi hL (h35 m S w _ _ hm5 g) j hr hK
      · exact e_36 hG hi hL (h36 m S w _ _ _ hm5 g) j hr hK
      · exact e_37 hG hi hL (fun _ => h37 m S w _ _ _ hm5 g (Or.inl rfl)) (fun _ => h37 m S w _ _ _ hm5 g (Or.inr rfl)) j hr hK
      · exact e_38 hG hi hL (h38 m S w _ hm5 g) j hr hK
      · exact e_39 hG hi hL (h39 m S w hm5 g) j hr hK
    · refine ⟨fun _ => trivial, fun q => absurd ?_ q⟩
      show Int32.ofNat L - 7 < nI (7 * m)
      exact lw_end hL (by omega) (by omega)
