section
variable {σ τ : St} {l e : Nat} {xs : List Nat}
theorem LSTe.congr (h : LSTe σ l e xs) (h1 : sR τ 1301 l = sR σ 1301 l) (h2 : sI τ 1302 l = sI σ 1302 l) (h3 : sL τ e = sL σ e) (h4 : sQ τ e = sQ σ e) (h5 : sC τ e = sC σ e) (h6 : sK τ l = sK σ l) (h7 : sK τ e = sK σ e) : LSTe τ l e xs := by
  obtain ⟨g1, g2, g3, g4, g5, g6, g7, g8⟩ := h
  exact ⟨h1.trans g1, h2.trans g2, by rw [h3]; exact g3, by rw [h3]; exact g4, fun j x hx => by rw [h4]; exact g5 j x hx, fun q => by rw [h5]; exact g6 (by rw [← h3]; exact q), h6.trans g7, h7.trans g8⟩
/-- one more at the end -/
theorem ls_add (h : LSTe σ l e xs) (hc : xs.length = sL σ e → sL σ e < 2600) {k n : Nat} (hk : (if xs.length = sL σ e then 1 else 0) ≤ k) (hn : (if xs.length = sL σ e then capN (sL σ e) else 0) ≤ n) {y : Nat} {Q : Int32 → St → Prop} (hq : ∀ e' τ, chL σ τ l e e' → LSTe τ l e' (xs ++ [y]) → sL τ e' = (if xs.length = sL σ e then capN (sL σ e) else sL σ e) → (e' = e → 0 < sL σ e) → Q 1 τ) : w_Jx4a65c_add_9ea2d k n l y σ Q := by
  have hl := h.lt
  obtain ⟨g1, g2, g3, g4, g5, g6, g7, g8⟩ := id h
  have hle : l ≠ e := fun q => by rw [q, g8] at g7; cases g7
  unfold w_Jx4a65c_add_9ea2d
  rintro s rfl
  rintro o rfl
  refine ⟨e, g1, k, n, 0, 0, by omega, by omega, ?_⟩
  have g2' : sI (setI 1300 l (sI σ 1300 l + 1) σ) 1302 l = nI xs.length := g2
  rw [g2']
  unfold w_Jx4a65c_add_72be8
  refine ⟨fun hf => ?_, fun hf => ?_⟩
  · have hne : xs.length ≠ sL σ e := fun q => hf (by rw [q]; rfl)
    unfold w_Jx4a65c_add_72be8_11
    refine ⟨e, rfl, vp_in_nI (by have : sL (setI 1300 l (sI σ 1300 l + 1) σ) e = sL σ e := rfl; omega) (by have : sL (setI 1300 l (sI σ 1300 l + 1) σ) e = sL σ e := rfl; omega), ?_⟩
    rw [nI_clamp hl]
    rintro s rfl
    rintro s rfl
    refine hq e _ ⟨fun f a hfa => ?_, fun f a _ => rfl, fun a ha => ⟨rfl, rfl, ?_, rfl⟩, rfl, Or.inl ⟨rfl, rfl, rfl, rfl⟩⟩ ⟨g1, ?_, ?_, g4, fun j x hx => ?_, g6, g7, g8⟩ ?_ (fun _ => by omega)
    · rw [sI_setI, u2_at, if_neg (fun q => by rcases hfa with r | r; exact r q.2; exact r.2 q.1)]
      show sI (setI 1300 l (sI σ 1300 l + 1) σ) f a = _
      rw [sI_setI, u2_at, if_neg (fun q => by rcases hfa with r | r; exact r q.2; exact r.1 q.1)]
    · funext j
      show sQ (setQ e xs.length (some y) _) a j = _
      rw [sQ_setQ, u2_at, if_neg (fun q => ha q.1)]
      rfl
    · rw [sI_setI, u2_at, if_pos ⟨rfl, rfl⟩, List.length_append, nI_1]
      rfl
    · rw [List.length_append]
      show xs.length + 1 ≤ sL σ e
      omega
    · show sQ (setQ e xs.length (some y) _) e j = _
      rw [sQ_setQ, u2_at]
      by_cases q : j < xs.length
      · rw [if_neg (fun q9 => by omega)]
        rw [List.getElem?_append_left q] at hx
        exact g5 j x hx
      · rw [List.getElem?_append_right (by omega)] at hx
        obtain ⟨q1, q2⟩ := List.getElem?_eq_some_iff.mp hx
        have q3 : j = xs.length := by simp only [List.length_singleton] at q1; omega
        subst q3
        rw [if_pos ⟨rfl, rfl⟩]
        simp at q2
        rw [q2]
    · rw [if_neg hne]; rfl
  · have hfe : xs.length = sL σ e := (nI_eq hl (by omega)).mp hf
    rw [if_pos hfe] at hk hn
    replace hc := hc hfe
    have h1 : LSTe (setI 1300 l (sI σ 1300 l + 1) σ) l e xs := ⟨g1, g2, g3, g4, g5, g6, g7, g8⟩
    refine ⟨k, n, 0, 0, by omega, by omega, ls_grow h1 hfe hc hk hn ?_⟩
    intro q τ G
    obtain ⟨q0, q1, q2, q3, q4, q5, q6⟩ := G
    have q0' : sK σ q = 0 := q0
    have hlq : l ≠ q := fun r => by rw [← r, g7] at q0'; cases q0'
    have q3' : sL τ q = capN (sL σ e) := q3
    have hcp : sL σ e < capN (sL σ e) ∧ capN (sL σ e) ≤ 4000 := by unfold capN; split <;> (try split) <;> omega
    unfold w_Jx4a65c_add_72be8_11
    refine ⟨q, rfl, vp_in_nI (by omega) (by omega), ?_⟩
    rw [nI_clamp hl]
    rintro s rfl
    rintro s rfl
    have r1 := q6.1
    refine hq q _ ⟨fun f a hfa => ?_, fun f a hfa => ?_, fun a ha => ⟨(q6.2.2.1 a ha).1, (q6.2.2.1 a ha).2.1, ?_, (q6.2.2.1 a ha).2.2.2⟩, q6.2.2.2.1, Or.inr q0'⟩ ⟨q2, ?_, ?_, ?_, fun j x hx => ?_, fun hz => absurd hz (by show sL τ q ≠ 0; omega), ?_, q1⟩ ?_ (fun r => absurd (r ▸ q0') (by rw [g8]; decide))
    · rw [sI_setI, u2_at, if_neg (fun q => by rcases hfa with r | r; exact r q.2; exact r.2 q.1)]
      show sI τ f a = _
      rw [q5 f a, sI_setI, u2_at, if_neg (fun q => by rcases hfa with r | r; exact r q.2; exact r.1 q.1)]
    · show sR τ f a = _
      rw [q6.2.1 f a hfa]; rfl
    · funext j
      show sQ (setQ q xs.length (some y) τ) a j = _
      rw [sQ_setQ, u2_at, if_neg (fun q => ha q.1), (q6.2.2.1 a ha).2.2.1]
      rfl
    · rw [sI_setI, u2_at, if_pos ⟨rfl, rfl⟩, List.length_append, nI_1]
      rfl
    · rw [List.length_append]
      show xs.length + 1 ≤ sL τ q
      omega
    · show sL τ q ≤ 4000
      omega
    · show sQ (setQ q xs.length (some y) τ) q j = _
      rw [sQ_setQ, u2_at]
      by_cases r : j < xs.length
      · rw [if_neg (fun q9 => by omega), q4 j r]
        rw [List.getElem?_append_left r] at hx
        exact g5 j x hx
      · rw [List.getElem?_append_right (by omega)] at hx
        obtain ⟨p1, p2⟩ := List.getElem?_eq_some_iff.mp hx
        have p3 : j = xs.length := by simp only [List.length_singleton] at p1; omega
        subst p3
        rw [if_pos ⟨rfl, rfl⟩]
        simp at p2
        rw [p2]
    · show sK τ l = 30
      rw [(q6.2.2.1 l hlq).2.2.2]; exact g7
    · rw [if_pos hfe]; exact q3'
end
section
variable {σ τ : St} {l e : Nat} {xs : List Nat}
/-- one is put in -/
def lIns (i y : Nat) (xs : List Nat) : List Nat := xs.take i ++ y :: xs.drop i
theorem lIns_at {i y j : Nat} (hi : i ≤ xs.length) : (lIns i y xs)[j]? = if j < i then xs[j]? else if j = i then some y else xs[j - 1]? := by
  unfold lIns
  have h1 : (xs.take i).length = i := by rw [List.length_take]; omega
  by_cases h : j < i
  · rw [if_pos h, List.getElem?_append_left (by omega), List.getElem?_take, if_pos h]
  · rw [if_neg h, List.getElem?_append_right (by omega), h1]
    by_cases h2 : j = i
    · rw [if_pos h2, h2, Nat.sub_self]; rfl
    · rw [if_neg h2]
      obtain ⟨d, hd⟩ : ∃ d, j - i = d + 1 := ⟨j - i - 1, by omega⟩
      rw [hd, List.getElem?_cons_succ, List.getElem?_drop]
      congr 1
      omega
theorem lIns_len {i y : Nat} (hi : i ≤ xs.length) : (lIns i y xs).length = xs.length + 1 := by
  unfold lIns
  rw [List.length_append, List.length_cons, List.length_take, List.length_drop]
  omega
theorem lIns_map {i y : Nat} {f : Nat → Nat} : (lIns i y xs).map f = lIns i (f y) (xs.map f) := by
  unfold lIns
  rw [List.map_append, List.map_cons, List.map_take, List.map_drop]
theorem ls_addAt (h : LSTe σ l e xs) {i : Nat} (hi : i ≤ xs.length) (hc : xs.length = sL σ e → sL σ e < 2600) {k n : Nat} (hk : (if xs.length = sL σ e then 1 else 0) ≤ k) (hn : (if xs.length = sL σ e then capN (sL σ e) else 0) ≤ n) {y : Nat} {Q : St → Prop} (hq : ∀ e' τ, chL σ τ l e e' → LSTe τ l e' (lIns i y xs) → sL τ e' = (if xs.length = sL σ e then capN (sL σ e) else sL σ e) → (e' = e → 0 < sL σ e) → Q τ) : w_Jx4a65c_add_7a177 k n l (nI i) y σ Q := by
  have hl := h.lt
  obtain ⟨g1, g2, g3, g4, g5, g6, g7, g8⟩ := id h
  unfold w_Jx4a65c_add_7a177
  refine ⟨0, 0, k, n, by omega, by omega, ?_⟩
  unfold w_Jx4a65c_rangeCheckForAdd_d00df
  rw [g2]
  refine ⟨fun q => nI_nlt hi (by omega) q, fun _ => ⟨fun _ => ?_, fun q => q (nI_pos' (by omega))⟩⟩
  rintro s rfl
  rintro x rfl
  rintro o rfl
  refine ⟨e, g1, ?_⟩
  have g2' : sI (setI 1300 l (sI σ 1300 l + 1) σ) 1302 l = nI xs.length := g2
  rw [g2']
  -- the part behind the growth
  have core : ∀ (q : Nat) (τ : St) (kk nn : Nat), sK τ l = 30 → sK τ q = 50 → sR τ 1301 l = some q → xs.length < sL τ q → sL τ q ≤ 4000 → (∀ j, j < xs.length → sQ τ q j = sQ σ e j) → chL σ τ l e q → (q = e → 0 < sL σ e) → sL τ q = (if xs.length = sL σ e then capN (sL σ e) else sL σ e) → w_Jx4a65c_add_7a177_38 Q l (nI i) y (nI xs.length) (some q) τ kk nn := by
    intro q τ kk nn c1 c2 c3 c4 c5 c6 c7 c8 c9
    unfold w_Jx4a65c_add_7a177_38
    have e1 : nI xs.length - nI i = nI (xs.length - i) := pk_sub hi
    rw [e1, nI_1, nI_1, nI_clamp (by omega : i < 2 ^ 31), nI_clamp (by omega : i + 1 < 2 ^ 31), nI_clamp (by omega : xs.length - i < 2 ^ 31)]
    refine ⟨q, rfl, nI_pos (by omega), nI_pos (by omega), nI_pos (by omega), by omega, by omega, by omega, by omega, ?_⟩
    rintro s rfl
    refine ⟨vp_in_nI (by show i < sL τ q; omega) (by show sL τ q < 2 ^ 31; omega), ?_⟩
    rintro s rfl
    rintro s rfl
    refine hq q _ ⟨fun f a hfa => ?_, fun f a hfa => ?_, fun a ha => ⟨(c7.2.2.1 a ha).1, (c7.2.2.1 a ha).2.1, ?_, (c7.2.2.1 a ha).2.2.2⟩, c7.2.2.2.1, ?_⟩ ⟨c3, ?_, ?_, c5, fun j x hx => ?_, fun hz => absurd hz (by show sL τ q ≠ 0; omega), c1, c2⟩ c9 c8
    · rw [sI_setI, u2_at, if_neg (fun q => by rcases hfa with r | r; exact r q.2; exact r.2 q.1)]
      exact c7.1 f a hfa
    · exact c7.2.1 f a hfa
    · funext j
      show sQ (setQ q i (some y) _) a j = _
      rw [sQ_setQ, u2_at, if_neg (fun q => ha q.1), sQ_cpyQ, u2l_at, if_neg ha, (c7.2.2.1 a ha).2.2.1]
    · rcases c7.2.2.2.2 with r | r
      · exact Or.inl r
      · exact Or.inr r
    · rw [sI_setI, u2_at, if_pos ⟨rfl, rfl⟩, lIns_len hi]
    · rw [lIns_len hi]
      show xs.length + 1 ≤ sL τ q
      omega
    · show sQ (setQ q i (some y) _) q j = _
      rw [sQ_setQ, u2_at, sQ_cpyQ, u2l_at, if_pos rfl]
      rw [lIns_at hi] at hx
      by_cases h1 : j < i
      · rw [if_neg (fun r => by omega), pk_cpy_out (Or.inl (by omega))]
        rw [if_pos h1] at hx
        have h2 := (List.getElem?_eq_some_iff.mp hx).1
        rw [c6 j h2]; exact g5 j x hx
      · rw [if_neg h1] at hx
        by_cases h2 : j = i
        · rw [if_pos ⟨rfl, h2⟩]
          rw [if_pos h2] at hx
          exact hx
        · rw [if_neg (fun r => h2 r.2)]
          rw [if_neg h2] at hx
          have h3 := (List.getElem?_eq_some_iff.mp hx).1
          rw [pk_cpy_in (by omega) (by omega), show i + (j - (i + 1)) = j - 1 by omega, c6 _ h3]
          exact g5 _ x hx
  refine ⟨fun hf => ?_, fun hf => ?_⟩
  · have hne : xs.length ≠ sL σ e := fun q => hf (by rw [q]; rfl)
    refine core e _ k n g7 g8 g1 (by show xs.length < sL σ e; omega) g4 (fun j _ => rfl) ⟨fun f a hfa => ?_, fun f a _ => rfl, fun a _ => ⟨rfl, rfl, rfl, rfl⟩, rfl, Or.inl ⟨rfl, rfl, rfl, rfl⟩⟩ (fun _ => by omega) (by rw [if_neg hne]; rfl)
    rw [sI_setI, u2_at, if_neg (fun q => by rcases hfa with r | r; exact r q.2; exact r.1 q.1)]
  · have hfe : xs.length = sL σ e := (nI_eq hl (by omega)).mp hf
    rw [if_pos hfe] at hk hn
    replace hc := hc hfe
    have h1 : LSTe (setI 1300 l (sI σ 1300 l + 1) σ) l e xs := ⟨g1, g2, g3, g4, g5, g6, g7, g8⟩
    refine ⟨k, n, 0, 0, by omega, by omega, ls_grow h1 hfe hc hk hn ?_⟩
    intro q τ G
    obtain ⟨q0, q1, q2, q3, q4, q5, q6⟩ := G
    have q0' : sK σ q = 0 := q0
    have hlq : l ≠ q := fun r => by rw [← r, g7] at q0'; cases q0'
    have q3' : sL τ q = capN (sL σ e) := q3
    have hcp : sL σ e < capN (sL σ e) ∧ capN (sL σ e) ≤ 4000 := by unfold capN; split <;> (try split) <;> omega
    refine core q τ 0 0 (by rw [(q6.2.2.1 l hlq).2.2.2]; exact g7) q1 q2 (by omega) (by omega) (fun j hj => q4 j hj) ⟨fun f a hfa => ?_, fun f a hfa => ?_, fun a ha => q6.2.2.1 a ha, q6.2.2.2.1, Or.inr q0'⟩ (fun r => absurd (r ▸ q0') (by rw [g8]; decide)) (by rw [if_pos hfe]; exact q3')
    · rw [q5 f a, sI_setI, u2_at, if_neg (fun q => by rcases hfa with r | r; exact r q.2; exact r.1 q.1)]
    · rw [q6.2.1 f a hfa]; rfl
/-- one is taken out -/
theorem ls_remove (h : LSTe σ l e xs) {i y : Nat} (hi : xs[i]? = some y) {Q : Option Nat → St → Prop} (hq : ∀ τ, chL σ τ l e e → LSTe τ l e (xs.eraseIdx i) → sL τ e = sL σ e → 0 < sL σ e → Q (some y) τ) : w_Jx4a65c_remove_915e3 l (nI i) σ Q := by
  have hl := h.lt
  obtain ⟨g1, g2, g3, g4, g5, g6, g7, g8⟩ := id h
  have hii : i < xs.length := (List.getElem?_eq_some_iff.mp hi).1
  unfold w_Jx4a65c_remove_915e3
  rw [g2]
  refine ck_ix hii hl ?_
  rintro o rfl
  refine ⟨e, g1, vp_in_nI (by omega) (by omega), ?_⟩
  rintro o rfl
  rw [nI_clamp (by omega), g5 _ _ hi]
  unfold w_Jx4a65c_fastRemove_b59b0
  rintro s rfl
  rintro x rfl
  have g2' : sI (setI 1300 l (sI σ 1300 l + 1) σ) 1302 l = nI xs.length := g2
  have e1 : nI xs.length - 1 = nI (xs.length - 1) := by rw [show (1 : Int32) = nI 1 from rfl, pk_sub (by omega)]
  rw [g2', e1]
  have hlen : (xs.eraseIdx i).length = xs.length - 1 := by rw [List.length_eraseIdx, if_pos hii]
  have core : ∀ (τ : St), chL σ τ l e e → sQ τ e = va_cpy (sQ σ e) (sQ σ e) (i + 1) i (xs.length - 1 - i) → sR τ 1301 l = some e → w_Jx4a65c_fastRemove_b59b0_34 (fun s58 => Q (some y) s58) l e (nI (xs.length - 1)) τ := by
    intro τ c1 c2 c3
    have c4 : sL τ e = sL σ e := by
      rcases c1.2.2.2.2 with r | r
      · exact r.2.1
      · rw [g8] at r; cases r
    have c5 : sK τ e = 50 := by
      rcases c1.2.2.2.2 with r | r
      · exact r.2.2.2.trans g8
      · rw [g8] at r; cases r
    have hle : l ≠ e := fun q => by rw [q, g8] at g7; cases g7
    unfold w_Jx4a65c_fastRemove_b59b0_34
    rintro s rfl
    refine ⟨vp_in_nI (by show xs.length - 1 < sL τ e; omega) (by show sL τ e < 2 ^ 31; omega), ?_⟩
    rintro s rfl
    rw [nI_clamp (by omega)]
    refine hq _ ⟨fun f a hfa => ?_, fun f a hfa => c1.2.1 f a hfa, fun a ha => ⟨(c1.2.2.1 a ha).1, (c1.2.2.1 a ha).2.1, ?_, (c1.2.2.1 a ha).2.2.2⟩, c1.2.2.2.1, c1.2.2.2.2⟩ ⟨c3, ?_, ?_, by show sL τ e ≤ 4000; omega, fun j x hx => ?_, fun hz => absurd hz (by show sL τ e ≠ 0; omega), ?_, c5⟩ c4 (by omega)
    · show sI (setI 1302 l (nI (xs.length - 1)) τ) f a = _
      rw [sI_setI, u2_at, if_neg (fun q => by rcases hfa with r | r; exact r q.2; exact r.2 q.1)]
      exact c1.1 f a hfa
    · funext j
      rw [sQ_setQ, u2_at, if_neg (fun q => ha q.1)]
      show sQ τ a j = _
      rw [(c1.2.2.1 a ha).2.2.1]
    · show sI (setI 1302 l (nI (xs.length - 1)) τ) 1302 l = _
      rw [sI_setI, u2_at, if_pos ⟨rfl, rfl⟩, hlen]
    · rw [hlen]
      show xs.length - 1 ≤ sL τ e
      omega
    · have h2 := (List.getElem?_eq_some_iff.mp hx).1
      rw [hlen] at h2
      rw [sQ_setQ, u2_at, if_neg (fun q => by omega)]
      show sQ τ e j = _
      rw [c2]
      rw [List.getElem?_eraseIdx] at hx
      by_cases h1 : j < i
      · rw [pk_cpy_out (Or.inl h1)]
        rw [if_pos h1] at hx
        exact g5 j x hx
      · rw [if_neg h1] at hx
        rw [pk_cpy_in (by omega) (by omega), show i + 1 + (j - i) = j + 1 by omega]
        exact g5 _ x hx
    · show sK τ l = 30
      rw [(c1.2.2.1 l hle).2.2.2]; exact g7
  have hbase : chL σ (setI 1300 l (sI σ 1300 l + 1) σ) l e e := ⟨fun f a hfa => by rw [sI_setI, u2_at, if_neg (fun q => by rcases hfa with r | r; exact r q.2; exact r.1 q.1)], fun f a _ => rfl, fun a _ => ⟨rfl, rfl, rfl, rfl⟩, rfl, Or.inl ⟨rfl, rfl, rfl, rfl⟩⟩
  refine ⟨fun q => ?_, fun q => ?_⟩
  · have q1 : xs.length - 1 ≤ i := (nI_leI (by omega) (by omega)).mp q
    refine core _ hbase ?_ g1
    show sQ σ e = _
    funext j
    have : xs.length - 1 - i = 0 := by omega
    rw [this, pk_cpy_out (by omega)]
  · have q1 : ¬ xs.length - 1 ≤ i := fun r => q ((nI_leI (by omega) (by omega)).mpr r)
    have e2 : nI (xs.length - 1) - nI i = nI (xs.length - 1 - i) := pk_sub (by omega)
    rw [e2, nI_1, nI_clamp (by omega : i + 1 < 2 ^ 31), nI_clamp (by omega : i < 2 ^ 31), nI_clamp (by omega : xs.length - 1 - i < 2 ^ 31)]
    refine ⟨nI_pos (by omega), nI_pos (by omega), nI_pos (by omega), by show _ ≤ sL σ e; omega, by show _ ≤ sL σ e; omega, by show 0 < sL σ e; omega, by show 0 < sL σ e; omega, ?_⟩
    rintro s rfl
    refine core _ ⟨hbase.1, fun f a _ => rfl, fun a ha => ⟨rfl, rfl, ?_, rfl⟩, rfl, Or.inl ⟨rfl, rfl, rfl, rfl⟩⟩ ?_ g1
    · show sQ (cpyQ e _ _) a = _
      funext j
      rw [sQ_cpyQ, u2l_at, if_neg ha]; rfl
    · funext j
      rw [sQ_cpyQ, u2l_at, if_pos rfl]; rfl
end
