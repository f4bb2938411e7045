/-! sums over parts -/
section
variable {z : Nat → Int}
theorem sz_erase {a : Nat} : ∀ ys : List Nat, a ∈ ys → sz ys z = z a + sz (ys.erase a) z
  | b :: t, h => by
    by_cases e : b = a
    · subst e
      rw [List.erase_cons_head]; rfl
    · have h' : a ∈ t := by
        rcases List.mem_cons.mp h with q | q
        · exact absurd q.symm e
        · exact q
      rw [List.erase_cons_tail (by simpa using e)]
      show z b + sz t z = z a + (z b + sz (t.erase a) z)
      rw [sz_erase t h']; omega
theorem sz_sub : ∀ xs ys : List Nat, xs.Nodup → (∀ x, x ∈ xs → x ∈ ys) → (∀ y, y ∈ ys → 0 ≤ z y) → sz xs z ≤ sz ys z
  | [], ys, _, _, h3 => sz_0 ys h3
  | x :: t, ys, h1, h2, h3 => by
    obtain ⟨n1, n2⟩ := List.nodup_cons.mp h1
    rw [sz_erase ys (h2 x (List.mem_cons_self ..))]
    have := sz_sub t (ys.erase x) n2 (fun y hy => (List.mem_erase_of_ne (show y ≠ x from fun e => n1 (e ▸ hy))).mpr (h2 y (List.mem_cons_of_mem _ hy))) fun y hy => h3 y (List.mem_of_mem_erase hy)
    show z x + sz t z ≤ z x + sz (ys.erase x) z
    omega
end
section
variable {B k : Nat} {S T : Ss} {w v u w0 : MS}
theorem cutL_all (h : Rel B k S w) {s l : Nat} {f0 : Option Nat} : ∀ x, x ∈ hL S → zA S 202 x = nI s → zO S 203 x = some l → x ∈ cutL S s l f0 9 := by
  have mono : ∀ n d x, x ∈ cutL S s l f0 n → x ∈ cutL S s l f0 (n + d) := by
    intro n d
    induction d with
    | zero => intro x hx; exact hx
    | succ d ih => intro x hx; exact List.mem_append_left _ (ih x hx)
  intro x hx h1 h2
  by_cases e : some x = f0
  · have := mono 0 9 x (by rw [← e]; exact List.mem_singleton.mpr rfl)
    rw [Nat.zero_add] at this; exact this
  · have ht := (hwf_trn (h.hwf hx)).2
    have h8 := h.or.1
    have hm : x ∈ cutL S s l f0 (tnN S x + 1) := List.mem_append_right _ (List.mem_filter.mpr ⟨hx, decide_eq_true ⟨e, rfl, h1, h2⟩⟩)
    have := mono (tnN S x + 1) (8 - tnN S x) x hm
    rw [show tnN S x + 1 + (8 - tnN S x) = 9 by omega] at this
    exact this
theorem hbk2 {p : Nat → Int32} {s l : Nat} {L : List Nat} (hn : (hL S).Nodup) (t1 : hL T = (hL S).filter fun x => decide (0 < p x)) (t2 : ∀ x, x ∈ hL S → ¬ p x = 0 → zA T 204 x = p x) (hA2 : zA T 202 = zA S 202) (hO2 : zO T 203 = zO S 203) (hL2 : ∀ x, x ∈ hL S → zA S 202 x = nI s → zO S 203 x = some l → x ∈ L) (hp : ∀ x, x ∈ L → 0 ≤ (p x).toInt) : sz (hL T) (fun x => (hpc T s l x).toInt) ≤ sz L (fun x => (p x).toInt) := by
  have e0 : (0 : Int32).toInt = 0 := rfl
  have e1 : sz (hL T) (fun x => (hpc T s l x).toInt) = sz ((hL T).filter fun x => decide (zA S 202 x = nI s ∧ zO S 203 x = some l)) (fun x => (p x).toInt) := by
    rw [sz_fil]
    refine sz_cg _ fun x hx => ?_
    rw [t1] at hx
    obtain ⟨x1, x2⟩ := List.mem_filter.mp hx
    have x3 := of_decide_eq_true x2
    have x4 : ¬ p x = 0 := fun r => by rw [r] at x3; exact absurd x3 (by decide)
    unfold hpc
    rw [hA2, hO2, t2 x x1 x4]
    by_cases q : zA S 202 x = nI s ∧ zO S 203 x = some l
    · rw [if_pos q, if_pos (decide_eq_true q)]
    · rw [if_neg q, if_neg (by simpa using q), e0]
  rw [e1]
  refine sz_sub _ _ ?_ (fun x hx => ?_) hp
  · rw [t1]
    exact (hn.sublist List.filter_sublist).sublist List.filter_sublist
  · obtain ⟨x1, x2⟩ := List.mem_filter.mp hx
    obtain ⟨x3, x4⟩ := of_decide_eq_true x2
    rw [t1] at x1
    exact hL2 x (List.mem_filter.mp x1).1 x3 x4
theorem cutL_hd {s l x0 : Nat} : ∀ n, ∃ tl, cutL S s l (some x0) n = x0 :: tl
  | 0 => ⟨[], rfl⟩
  | n + 1 => by
    obtain ⟨tl, e⟩ := cutL_hd (s := s) (l := l) (x0 := x0) n
    exact ⟨tl ++ (hL S).filter (sel S s l (some x0) n), by show cutL S s l (some x0) n ++ _ = _; rw [e]; rfl⟩
theorem fcut_x0 {s l x0 : Nat} {r : Int32} {pc : Nat → Int32} (n : Nat) : fcut pc (cutL S s l (some x0) n) r x0 = mn (pc x0) r := by
  obtain ⟨tl, e⟩ := cutL_hd (S := S) (s := s) (l := l) (x0 := x0) n
  rw [e]
  show (if x0 = x0 then mn (pc x0) r else _) = _
  rw [if_pos rfl]
/-- the reference's rows, tidied after cutting -/
theorem Rel.kiT (h : Rel B k S w0) {f0 : Option Nat} (hb : KB S w0 w f0) {r : Int32} (h51 : ∀ t, t < zN S 10 → ¬ f0.bind (zO S 205) = some t → mA w 51 t = mA w0 51 t) (h51x : ∀ x0 t0, f0 = some x0 → zO S 205 x0 = some t0 → mA w 51 t0 = mn (zA S 204 x0) r) {s l : Nat} (hI : KI S w v f0 (cutL S s l f0 9) r) (hc : CCv S T (cutL S s l f0 9) r) (hf0 : ∀ x, f0 = some x → x ∈ hL S) : ∃ u, g_X12_tidies v = some ((), u) ∧ KX S u (fun x => if some x = f0 then zA S 204 x else fcut (zA S 204) (cutL S s l f0 9) r x) (fun t => if f0.bind (zO S 205) = some t then zA S 1005 t else zA T 1005 t) (zA T 1004) ∧ (∀ k, k ≠ 39 → mI u k = mI w k) ∧ ∀ k, k ≠ 40 ∧ k ≠ 41 ∧ k ≠ 42 ∧ k ≠ 43 ∧ k ≠ 44 ∧ k ≠ 51 ∧ k ≠ 52 ∧ k ≠ 58 ∧ k ≠ 59 → mA u k = mA w k := by
  obtain ⟨i1, i2, i3, i4, i5, i6⟩ := hI
  obtain ⟨c1, c2, c3, c4⟩ := hc
  obtain ⟨u, t1, t2, t3, t4⟩ := k_tidies i1
  have hs : ∀ x, x ∈ cutL S s l f0 9 → x ∈ hL S := fun x hx => by
    rcases cutL_m 9 x hx with e | e
    · exact hf0 x e
    · exact e.1
  have val : ∀ t, t < zN S 10 → mA v 51 t = zA T 1004 t ∧ mA v 52 t = if f0.bind (zO S 205) = some t then zA S 1005 t else zA T 1005 t := fun t ht => by
    obtain ⟨-, -, -, b4, b5, -⟩ := h.ta.2.2.2 t ht
    have w52 : mA w 52 t = zA S 1005 t := by rw [hb.2.1 52 (by decide), b5]
    by_cases e : f0.bind (zO S 205) = some t
    · rw [if_pos e]
      cases hf : f0 with
      | none => rw [hf] at e; cases e
      | some x0 =>
        subst hf
        have e' : zO S 205 x0 = some t := e
        obtain ⟨f1, f2⟩ := i4 t fun ⟨x, x1, x2, x3⟩ => x2 (by rw [h.co.uq (hs x x1) (hf0 x0 rfl) x3 e'])
        have hx0 : x0 ∈ cutL S s l (some x0) 9 := by
          obtain ⟨tl, e9⟩ := cutL_hd (S := S) (s := s) (l := l) (x0 := x0) 9
          rw [e9]; exact List.mem_cons_self ..
        rw [f1, f2, w52, h51x x0 t rfl e', (c3 x0 t hx0 e').1, fcut_x0 9]
        exact ⟨rfl, rfl⟩
    · rw [if_neg e]
      by_cases e2 : ∃ x, x ∈ cutL S s l f0 9 ∧ ¬ some x = f0 ∧ zO S 205 x = some t
      · obtain ⟨x, x1, x2, x3⟩ := e2
        obtain ⟨f1, f2⟩ := i3 x t x1 x2 x3
        obtain ⟨g1, g2⟩ := c3 x t x1 x3
        rw [f1, f2, g1, g2, w52]; exact ⟨rfl, rfl⟩
      · obtain ⟨f1, f2⟩ := i4 t e2
        obtain ⟨g1, g2⟩ := c4 t fun ⟨x, x1, x2⟩ => e2 ⟨x, x1, fun r => e (by rw [← r]; exact x2), x2⟩
        rw [f1, f2, g1, g2, w52, h51 t ht e]; exact ⟨b4, rfl⟩
  refine ⟨u, t1, ⟨t2, fun t ht => by rw [t4 51 (by decide), t4 52 (by decide)]; exact val t ht, (i2.wr (t4 58 (by decide)) (t4 59 (by decide))).cg fun r hr => List.filter_congr fun t ht => ?_⟩, fun k hk => by rw [t3 k hk, i5], fun k hk => by rw [t4 k ⟨hk.1, hk.2.1, hk.2.2.1, hk.2.2.2.1, hk.2.2.2.2.1⟩, i6 k ⟨hk.2.2.2.1, hk.2.2.2.2.2.1, hk.2.2.2.2.2.2.1, hk.2.2.2.2.2.2.2.1, hk.2.2.2.2.2.2.2.2⟩]⟩
  have htN := ((h.ro.1 r hr).2.2.2.2.2.1 t (List.mem_filter.mp ht).1).1
  rw [(val t htN).2]
end
