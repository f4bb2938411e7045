/-! sums, loops that sum -/
theorem I_lc (a b c : Int32) : a + (b + c) = b + (a + c) := by rw [← Int32.add_assoc, Int32.add_comm a, Int32.add_assoc]
section
variable {α : Type} {xs ys : List α} {f g : α → Int32}
theorem sm_app (a : α) : ∀ xs : List α, sm (xs ++ [a]) f = sm xs f + f a
  | [] => by show f a + 0 = 0 + f a; rw [Int32.add_zero, Int32.zero_add]
  | b :: t => by show f b + sm (t ++ [a]) f = f b + sm t f + f a; rw [sm_app a t, Int32.add_assoc]
theorem sm_cg : ∀ xs : List α, (∀ a, a ∈ xs → f a = g a) → sm xs f = sm xs g
  | [], _ => rfl
  | b :: t, h => by show f b + sm t f = g b + sm t g; rw [h b (List.mem_cons_self ..), sm_cg t fun a ha => h a (List.mem_cons_of_mem _ ha)]
theorem sm_0 : ∀ xs : List α, (∀ a, a ∈ xs → f a = 0) → sm xs f = 0
  | [], _ => rfl
  | b :: t, h => by show f b + sm t f = 0; rw [h b (List.mem_cons_self ..), sm_0 t fun a ha => h a (List.mem_cons_of_mem _ ha), Int32.add_zero]
theorem sm_fil (p : α → Bool) : ∀ xs : List α, sm (xs.filter p) f = sm xs (fun a => if p a = true then f a else 0)
  | [] => rfl
  | b :: t => by
    show sm ((b :: t).filter p) f = (if p b = true then f b else 0) + sm t _
    by_cases h : p b = true
    · rw [List.filter_cons_of_pos h, if_pos h, ← sm_fil p t]; rfl
    · rw [List.filter_cons_of_neg h, if_neg h, Int32.zero_add, sm_fil p t]
theorem sm_add : ∀ xs : List α, sm xs (fun a => f a + g a) = sm xs f + sm xs g
  | [] => by show (0 : Int32) = 0 + 0; rfl
  | b :: t => by
    show f b + g b + sm t _ = f b + sm t f + (g b + sm t g)
    rw [sm_add t]
    rw [Int32.add_assoc, Int32.add_assoc, I_lc (g b)]
theorem sm_map {β : Type} (h : β → α) : ∀ zs : List β, sm (zs.map h) f = sm zs (fun b => f (h b))
  | [] => rfl
  | b :: t => by show f (h b) + sm (t.map h) f = _; rw [sm_map h t]; rfl
theorem sm_split (p : α → Bool) : sm xs f = sm (xs.filter p) f + sm (xs.filter fun a => !p a) f := by
  rw [sm_fil, sm_fil, ← sm_add]
  refine sm_cg xs fun a _ => ?_
  cases h : p a with
  | true => show f a = f a + 0; rw [Int32.add_zero]
  | false => show f a = 0 + f a; rw [Int32.zero_add]
theorem sm_idx {n : Nat} {e : Nat → Int32} (hn : n = xs.length) (h : ∀ (k : Nat) a, xs[k]? = some a → e k = f a) : sm (List.range n) e = sm xs f := by
  subst hn
  have key : ∀ i, i ≤ xs.length → sm (List.range i) e = sm (xs.take i) f := by
    intro i
    induction i with
    | zero => intro _; rw [List.take_zero]; rfl
    | succ i ih =>
      intro hi
      have hx : xs[i]? = some (xs[i]'(by omega)) := List.getElem?_eq_getElem (by omega)
      rw [List.range_succ, sm_app, ih (by omega), List.take_add_one, hx]
      show _ = sm (xs.take i ++ [xs[i]]) f
      rw [sm_app, h i _ hx]
  rw [key xs.length (Nat.le_refl _), List.take_length]
theorem sz_app (z : α → Int) (a : α) : ∀ xs : List α, sz (xs ++ [a]) z = sz xs z + z a
  | [] => by show z a + 0 = 0 + z a; omega
  | b :: t => by show z b + sz (t ++ [a]) z = z b + sz t z + z a; rw [sz_app z a t]; omega
theorem sz_cg {z y : α → Int} : ∀ xs : List α, (∀ a, a ∈ xs → z a = y a) → sz xs z = sz xs y
  | [], _ => rfl
  | b :: t, h => by show z b + sz t z = y b + sz t y; rw [h b (List.mem_cons_self ..), sz_cg t fun a ha => h a (List.mem_cons_of_mem _ ha)]
theorem sz_le {z y : α → Int} : ∀ xs : List α, (∀ a, a ∈ xs → z a ≤ y a) → sz xs z ≤ sz xs y
  | [], _ => Int.le_refl _
  | b :: t, h => by
    have h1 := h b (List.mem_cons_self ..)
    have h2 := sz_le t fun a ha => h a (List.mem_cons_of_mem _ ha)
    show z b + sz t z ≤ y b + sz t y; omega
theorem sz_0 {z : α → Int} : ∀ xs : List α, (∀ a, a ∈ xs → 0 ≤ z a) → 0 ≤ sz xs z
  | [], _ => Int.le_refl _
  | b :: t, h => by
    have h1 := h b (List.mem_cons_self ..)
    have h2 := sz_0 t fun a ha => h a (List.mem_cons_of_mem _ ha)
    show 0 ≤ z b + sz t z; omega
theorem sz_ub {z : α → Int} {c : Nat} : ∀ xs : List α, (∀ a, a ∈ xs → z a ≤ c) → sz xs z ≤ xs.length * c
  | [], _ => by show (0 : Int) ≤ _; simp
  | b :: t, h => by
    have h1 := h b (List.mem_cons_self ..)
    have h2 := sz_ub t fun a ha => h a (List.mem_cons_of_mem _ ha)
    show z b + sz t z ≤ ((t.length + 1 : Nat) : Int) * c
    rw [Int.natCast_add, Int.add_mul]; omega
theorem sz_mem {z : α → Int} {a : α} : ∀ xs : List α, (∀ a, a ∈ xs → 0 ≤ z a) → a ∈ xs → z a ≤ sz xs z
  | b :: t, h, ha => by
    have h2 := sz_0 t fun a ha => h a (List.mem_cons_of_mem _ ha)
    have h1 := h b (List.mem_cons_self ..)
    rcases List.mem_cons.mp ha with q | q
    · subst q; show z a ≤ z a + sz t z; omega
    · have := sz_mem t (fun a ha => h a (List.mem_cons_of_mem _ ha)) q
      show z a ≤ z b + sz t z; omega
theorem sz_add {z y : α → Int} : ∀ xs : List α, sz xs (fun a => z a + y a) = sz xs z + sz xs y
  | [] => rfl
  | b :: t => by show z b + y b + sz t _ = z b + sz t z + (y b + sz t y); rw [sz_add t]; omega
theorem sz_z : ∀ xs : List α, sz xs (fun _ => 0) = 0
  | [] => rfl
  | b :: t => by show (0 : Int) + sz t _ = 0; rw [sz_z t]; rfl
theorem sz_comm {β : Type} {F : α → β → Int} (ys : List β) : ∀ xs : List α, sz xs (fun a => sz ys (fun b => F a b)) = sz ys (fun b => sz xs (fun a => F a b))
  | [] => (sz_z ys).symm
  | a :: t => by
    show sz ys (fun b => F a b) + sz t _ = sz ys (fun b => F a b + sz t (fun a => F a b))
    rw [sz_comm ys t, ← sz_add]
theorem sz_len {z : α → Int} : ∀ xs : List α, (∀ a, a ∈ xs → 1 ≤ z a) → (xs.length : Int) ≤ sz xs z
  | [], _ => Int.le_refl _
  | b :: t, h => by
    have h1 := h b (List.mem_cons_self ..)
    have h2 := sz_len t fun a ha => h a (List.mem_cons_of_mem _ ha)
    show ((t.length + 1 : Nat) : Int) ≤ z b + sz t z; omega
theorem sz_fil {z : α → Int} (p : α → Bool) : ∀ xs : List α, sz (xs.filter p) z = sz xs (fun a => if p a = true then z a else 0)
  | [] => rfl
  | b :: t => by
    show sz ((b :: t).filter p) z = (if p b = true then z b else 0) + sz t _
    by_cases h : p b = true
    · rw [List.filter_cons_of_pos h, if_pos h, ← sz_fil p t]; rfl
    · rw [List.filter_cons_of_neg h, if_neg h, sz_fil p t]; omega
theorem add_toInt {x y : Int32} (h : -2147483648 ≤ x.toInt + y.toInt) (h2 : x.toInt + y.toInt < 2147483648) : (x + y).toInt = x.toInt + y.toInt := by
  rw [Int32.toInt_add]; exact Int.bmod_eq_of_le (by simpa using h) (by simpa using h2)
theorem sub_toInt {x y : Int32} (h : -2147483648 ≤ x.toInt - y.toInt) (h2 : x.toInt - y.toInt < 2147483648) : (x - y).toInt = x.toInt - y.toInt := by
  rw [Int32.toInt_sub]; exact Int.bmod_eq_of_le (by simpa using h) (by simpa using h2)
theorem sm_toInt : ∀ xs : List α, (∀ a, a ∈ xs → 0 ≤ (f a).toInt) → sz xs (fun a => (f a).toInt) < 2147483648 → (sm xs f).toInt = sz xs (fun a => (f a).toInt)
  | [], _, _ => rfl
  | b :: t, h, hb => by
    have h1 := h b (List.mem_cons_self ..)
    have h2 := sz_0 (z := fun a => (f a).toInt) t fun a ha => h a (List.mem_cons_of_mem _ ha)
    have hb' : (f b).toInt + sz t (fun a => (f a).toInt) < 2147483648 := hb
    have ih := sm_toInt t (fun a ha => h a (List.mem_cons_of_mem _ ha)) (by omega)
    show (f b + sm t f).toInt = (f b).toInt + sz t (fun a => (f a).toInt)
    rw [add_toInt (by rw [ih]; omega) (by rw [ih]; omega), ih]
end
/-- a loop of the reference that sums -/
theorem g_sum {R : Type} (L : Nat → Int32 → Int32 → GM R) (K : Int32 → Option (R × MS)) (w : MS) (n : Nat) (e : Nat → Int32) (hs : ∀ f acc i, i < n → L (f + 1) acc (nI i) w = L f (acc + e i) (nI (i + 1)) w) (hd : ∀ f acc, L (f + 1) acc (nI n) w = K acc) (acc : Int32) (F : Nat) (hF : n < F) : L F acc 0 w = K (acc + sm (List.range n) e) := by
  have key : ∀ i, i ≤ n → ∀ f, f + i = F → L F acc 0 w = L f (acc + sm (List.range i) e) (nI i) w := by
    intro i
    induction i with
    | zero => intro _ f hf; rw [show f = F by omega]; show _ = L F (acc + 0) (nI 0) w; rw [Int32.add_zero]; rfl
    | succ i ih =>
      intro hi f hf
      rw [ih (by omega) (f + 1) (by omega), hs f _ i (by omega), List.range_succ, sm_app, Int32.add_assoc]
  obtain ⟨d, hd2⟩ : ∃ d, F = d + 1 + n := ⟨F - n - 1, by omega⟩
  rw [key n (Nat.le_refl _) (d + 1) (by omega), hd]
theorem m_sum {R : Type} (L : Nat → Int32 → Int32 → MM R) (K : Int32 → Option (R × Ss)) (S : Ss) (n : Nat) (e : Nat → Int32) (hs : ∀ f acc i, i < n → (L (f + 1) acc (nI i)).1 S = (L f (acc + e i) (nI (i + 1))).1 S) (hd : ∀ f acc, (L (f + 1) acc (nI n)).1 S = K acc) (acc : Int32) (F : Nat) (hF : n < F) : (L F acc 0).1 S = K (acc + sm (List.range n) e) := by
  have key : ∀ i, i ≤ n → ∀ f, f + i = F → (L F acc 0).1 S = (L f (acc + sm (List.range i) e) (nI i)).1 S := by
    intro i
    induction i with
    | zero => intro _ f hf; rw [show f = F by omega]; show _ = (L F (acc + 0) (nI 0)).1 S; rw [Int32.add_zero]; rfl
    | succ i ih =>
      intro hi f hf
      rw [ih (by omega) (f + 1) (by omega), hs f _ i (by omega), List.range_succ, sm_app, Int32.add_assoc]
  obtain ⟨d, hd2⟩ : ∃ d, F = d + 1 + n := ⟨F - n - 1, by omega⟩
  rw [key n (Nat.le_refl _) (d + 1) (by omega), hd]
theorem FU_gt {n : Nat} (h : n < 100000) : n < FU := by rw [FU_eq]; exact h
/-- rising lists with the same members -/
theorem srt_ext : ∀ xs ys : List Nat, xs.Pairwise (· < ·) → ys.Pairwise (· < ·) → (∀ a, a ∈ xs ↔ a ∈ ys) → xs = ys
  | [], [], _, _, _ => rfl
  | [], b :: t, _, _, h => absurd ((h b).mpr (List.mem_cons_self ..)) (by simp)
  | b :: t, [], _, _, h => absurd ((h b).mp (List.mem_cons_self ..)) (by simp)
  | a :: s, b :: t, h1, h2, h => by
    obtain ⟨p1, p2⟩ := List.pairwise_cons.mp h1
    obtain ⟨q1, q2⟩ := List.pairwise_cons.mp h2
    have hab : a = b := by
      rcases List.mem_cons.mp ((h a).mp (List.mem_cons_self ..)) with r | r
      · exact r
      · rcases List.mem_cons.mp ((h b).mpr (List.mem_cons_self ..)) with r2 | r2
        · exact r2.symm
        · have := p1 b r2; have := q1 a r; omega
    subst hab
    rw [srt_ext s t p2 q2 fun c => ?_]
    have hc := h c
    rw [List.mem_cons, List.mem_cons] at hc
    constructor
    · intro r
      have := p1 c r
      rcases hc.mp (Or.inr r) with r2 | r2
      · omega
      · exact r2
    · intro r
      have := q1 c r
      rcases hc.mpr (Or.inr r) with r2 | r2
      · omega
      · exact r2
