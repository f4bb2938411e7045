/-! what is held became less: what is said of pieces, states -/
section
variable {B k : Nat} {S T : Ss} {w v u w0 : MS}
def PF (S : Ss) (p st q : Nat → Int32) : Prop := (∀ x, x ∈ hL S → tI (p x) 0 99 ∧ (p x).toInt ≤ (zA S 204 x).toInt) ∧ (∀ x, x ∈ hL S → ¬ p x = 0 → ∀ t, zO S 205 x = some t → st t = zA S 1005 t ∧ q t = p x) ∧ (∀ x, x ∈ hL S → p x = 0 → ∀ t, zO S 205 x = some t → ¬ (st t = 0 ∨ st t = 1)) ∧ (∀ t, t < zN S 10 → (st t = 0 → zA S 1005 t = 0) ∧ (st t = 1 → zA S 1005 t = 1)) ∧ ∀ t, t < zN S 10 → tI (st t) 0 3 ∧ tI (q t) 0 99
theorem Rel.pfS (h : Rel B k S w) : PF S (zA S 204) (zA S 1005) (zA S 1004) := by
  have hv : ∀ x, x ∈ hL S → tI (zA S 204 x) 1 99 := fun x hx => (h.ho.2.1 x hx).2.1
  refine ⟨fun x hx => ?_, fun x hx _ t ht => ⟨rfl, ((h.ho.2.1 x hx).2.2.2.2.2 t ht).2.2.2⟩, fun x hx hq => ?_, fun t _ => ⟨id, id⟩, fun t ht => ?_⟩
  · have t := tI_of (hv x hx)
    exact ⟨⟨by omega, t.2⟩, Int.le_refl _⟩
  · have t := tI_of (hv x hx)
    rw [hq] at t
    exact absurd t.1 (by decide)
  · obtain ⟨-, -, -, -, -, b6, b7, -⟩ := h.ta.2.2.2 t ht
    exact ⟨b7, b6⟩
theorem Rel.pfC (h : Rel B k S w) {xs : List Nat} {r : Int32} (hc : CCv S T xs r) (hs : ∀ x, x ∈ xs → x ∈ hL S) (hr : 0 ≤ r.toInt) : PF S (fcut (zA S 204) xs r) (zA T 1005) (zA T 1004) := by
  obtain ⟨c1, c2, c3, c4⟩ := hc
  have hv : ∀ x, x ∈ hL S → tI (zA S 204 x) 1 99 := fun x hx => (h.ho.2.1 x hx).2.1
  have hv0 : ∀ x, x ∈ hL S → tI (zA S 204 x) 0 99 := fun x hx => by have t := tI_of (hv x hx); exact ⟨by omega, t.2⟩
  obtain ⟨b1, b2, b3⟩ := cut_b (pc := zA S 204) xs r (fun x hx => hv0 x (hs x hx)) hr
  have nin : ∀ x t, x ∈ hL S → x ∉ xs → zO S 205 x = some t → ¬ ∃ y, y ∈ xs ∧ zO S 205 y = some t := fun x t hx hn ht ⟨y, y1, y2⟩ => hn (h.co.uq hx (hs y y1) ht y2 ▸ y1)
  have tk : ∀ x t, x ∈ hL S → zO S 205 x = some t → zA S 1004 t = zA S 204 x := fun x t hx ht => ((h.ho.2.1 x hx).2.2.2.2.2 t ht).2.2.2
  refine ⟨fun x hx => b3 x (hv0 x hx), fun x hx hq t ht => ?_, fun x hx hq t ht => ?_, fun t ht => ?_, fun t ht => ?_⟩
  · by_cases e : x ∈ xs
    · obtain ⟨d1, d2⟩ := c3 x t e ht
      rw [d2, if_neg hq]; exact ⟨rfl, d1⟩
    · obtain ⟨d1, d2⟩ := c4 t (nin x t hx e ht)
      rw [d1, d2, fcut_n xs r x e]; exact ⟨rfl, tk x t hx ht⟩
  · by_cases e : x ∈ xs
    · obtain ⟨d1, d2⟩ := c3 x t e ht
      rw [d2, if_pos hq]; decide
    · rw [fcut_n xs r x e] at hq
      have t := tI_of (hv x hx)
      rw [hq] at t
      exact absurd t.1 (by decide)
  · by_cases e : ∃ y, y ∈ xs ∧ zO S 205 y = some t
    · obtain ⟨y, y1, y2⟩ := e
      obtain ⟨d1, d2⟩ := c3 y t y1 y2
      rw [d2]; split
      · exact ⟨fun r => absurd r (by decide), fun r => absurd r (by decide)⟩
      · exact ⟨id, id⟩
    · obtain ⟨d1, d2⟩ := c4 t e
      rw [d2]; exact ⟨id, id⟩
  · obtain ⟨-, -, -, -, -, b6, b7, -⟩ := h.ta.2.2.2 t ht
    by_cases e : ∃ y, y ∈ xs ∧ zO S 205 y = some t
    · obtain ⟨y, y1, y2⟩ := e
      obtain ⟨d1, d2⟩ := c3 y t y1 y2
      rw [d1, d2]
      refine ⟨?_, (b3 y (hv0 y (hs y y1))).1⟩
      split
      · exact ⟨by decide, by decide⟩
      · exact b7
    · obtain ⟨d1, d2⟩ := c4 t e
      rw [d1, d2]; exact ⟨b7, b6⟩
/-- one holding more ends, with its task -/
theorem Rel.pfE (h : Rel B k S w) {p st q : Nat → Int32} (hp : PF S p st q) {x0 t0 : Nat} (hx0 : x0 ∈ hL S) (ht0 : zO S 205 x0 = some t0) {a : Int32} (ha : a = 2 ∨ a = 3) : PF S (fun x => if x = x0 then 0 else p x) (fun t => if t = t0 then a else st t) q := by
  obtain ⟨p1, p2, p3, p4, p5⟩ := hp
  have an : ¬ (a = 0 ∨ a = 1) := by rcases ha with e | e <;> (rw [e]; decide)
  have ab : tI a 0 3 := by rcases ha with e | e <;> (rw [e]; exact ⟨by decide, by decide⟩)
  have e0 : (0 : Int32).toInt = 0 := rfl
  refine ⟨fun x hx => ?_, fun x hx hq t ht => ?_, fun x hx hq t ht => ?_, fun t ht => ?_, fun t ht => ?_⟩
  · dsimp only
    by_cases e : x = x0
    · rw [if_pos e, e0]
      have := tI_of (h.ho.2.1 x hx).2.1
      exact ⟨⟨by decide, by decide⟩, by omega⟩
    · rw [if_neg e]; exact p1 x hx
  · dsimp only at hq ⊢
    by_cases e : x = x0
    · rw [if_pos e] at hq; exact absurd rfl hq
    · rw [if_neg e] at hq ⊢
      have nt : ¬ t = t0 := fun r => e (h.co.uq hx hx0 (r ▸ ht) ht0)
      rw [if_neg nt]
      exact p2 x hx hq t ht
  · dsimp only at hq ⊢
    by_cases e : x = x0
    · subst e
      have : t = t0 := Option.some.inj (ht.symm.trans ht0)
      rw [if_pos this]; exact an
    · rw [if_neg e] at hq
      have nt : ¬ t = t0 := fun r => e (h.co.uq hx hx0 (r ▸ ht) ht0)
      rw [if_neg nt]
      exact p3 x hx hq t ht
  · dsimp only
    by_cases e : t = t0
    · rw [if_pos e]; exact ⟨fun r => absurd (Or.inl r) an, fun r => absurd (Or.inr r) an⟩
    · rw [if_neg e]; exact p4 t ht
  · dsimp only
    by_cases e : t = t0
    · rw [if_pos e]; exact ⟨ab, (p5 t ht).2⟩
    · rw [if_neg e]; exact p5 t ht
/-- the reference's side of it -/
def KX (S : Ss) (v : MS) (p st q : Nat → Int32) : Prop := RW S v (((hL S).filter (hasO S)).filter fun x => decide (0 < p x)) p ∧ (∀ t, t < zN S 10 → mA v 51 t = q t ∧ mA v 52 t = st t) ∧ RB v (fun r => (rowS S r).filter fun t => decide (st t = 1))
theorem Rel.kx (h : Rel B k S w) : KX S w (zA S 204) (zA S 1005) (zA S 1004) := by
  refine ⟨?_, fun t ht => ?_, h.rb.cg fun r _ => (List.filter_eq_self.mpr fun t ht => (List.mem_filter.mp ht).2).symm⟩
  · rw [List.filter_eq_self.mpr fun x hx => ?_]
    · exact h.rw
    · have t := tI_of (h.ho.2.1 x (List.mem_filter.mp hx).1).2.1
      have e0 : (0 : Int32).toInt = 0 := rfl
      exact decide_eq_true (Int32.lt_iff_toInt_lt.mpr (by omega))
  · obtain ⟨-, -, -, b4, b5, -⟩ := h.ta.2.2.2 t ht
    exact ⟨b4, b5⟩
theorem KX.wr {p st q : Nat → Int32} (h : KX S v p st q) (hA : ∀ k, k = 40 ∨ k = 41 ∨ k = 42 ∨ k = 43 ∨ k = 44 ∨ k = 51 ∨ k = 52 ∨ k = 58 ∨ k = 59 → mA u k = mA v k) (hI : mI u 39 = mI v 39) : KX S u p st q := by
  obtain ⟨h1, h2, h3⟩ := h
  exact ⟨h1.wr hI (hA 40 (by decide)) (hA 41 (by decide)) (hA 42 (by decide)) (hA 43 (by decide)) (hA 44 (by decide)), fun t ht => by rw [hA 51 (by decide), hA 52 (by decide)]; exact h2 t ht, h3.wr (hA 58 (by decide)) (hA 59 (by decide))⟩
/-- a task ends in the reference, its rows are tidied -/
theorem Rel.kxE (h : Rel B k S w) {p st q : Nat → Int32} (hx : KX S v p st q) (h53 : mA v 53 = mA w 53) {x0 t0 : Nat} (hx0 : x0 ∈ hL S) (ht0 : zO S 205 x0 = some t0) (a : Int32) (ha : ¬ a = 1) : ∃ u1 u2, g_X12_ends (nI t0) a v = some ((), u1) ∧ g_X12_tidies u1 = some ((), u2) ∧ KX S u2 (fun x => if x = x0 then 0 else p x) (fun t => if t = t0 then a else st t) q ∧ (¬ hasO S x0 = true → KX S u1 (fun x => if x = x0 then 0 else p x) (fun t => if t = t0 then a else st t) q) ∧ mI u1 = mI v ∧ (∀ k, k ≠ 39 → mI u2 k = mI v k) ∧ (∀ k, k ≠ 43 ∧ k ≠ 52 ∧ k ≠ 58 ∧ k ≠ 59 → mA u1 k = mA v k) ∧ ∀ k, k ≠ 40 ∧ k ≠ 41 ∧ k ≠ 42 ∧ k ≠ 43 ∧ k ≠ 44 ∧ k ≠ 52 ∧ k ≠ 58 ∧ k ≠ 59 → mA u2 k = mA v k := by
  obtain ⟨k1, k2, k3⟩ := hx
  have h60 := h.ta.1
  obtain ⟨d1, d2, d3, d4⟩ := (h.ho.2.1 x0 hx0).2.2.2.2.2 t0 ht0
  obtain ⟨ρ, p1, p2, p3⟩ := h.rob d1 d3
  obtain ⟨u1, e1, e2, e3, e4, e5, e6⟩ := k_ends a k1 k3 (show t0 < 60 by omega) (by rw [h53]; exact p1) p2 (fun r hr hm => p3 r hr (List.mem_filter.mp hm).1)
  have fe : ∀ x, x ∈ hL S → (if zO S 205 x = some t0 then 0 else p x) = if x = x0 then 0 else p x := fun x hx => by
    by_cases e : x = x0
    · rw [if_pos e, if_pos (by rw [e]; exact ht0)]
    · rw [if_neg e, if_neg (fun r => e (h.co.uq hx hx0 r ht0))]
  have e2' : RW S u1 (((hL S).filter (hasO S)).filter fun x => decide (0 < p x)) (fun x => if x = x0 then 0 else p x) := e2.cg fun x hx => fe x (List.mem_filter.mp (List.mem_filter.mp hx).1).1
  have s2 : ∀ t, t < zN S 10 → mA u1 51 t = q t ∧ mA u1 52 t = if t = t0 then a else st t := fun t ht => by
    rw [e6 51 (by decide), e4, (k2 t ht).1]
    refine ⟨rfl, ?_⟩
    by_cases e : t = t0
    · rw [if_pos e, if_pos e]
    · rw [if_neg e, if_neg e]; exact (k2 t ht).2
  have s3 : RB u1 (fun r => (rowS S r).filter fun t => decide ((if t = t0 then a else st t) = 1)) := e3.cg fun r _ => by
    rw [List.filter_filter]
    refine List.filter_congr fun t _ => ?_
    by_cases e : t = t0
    · rw [if_pos e]; simp [e, ha]
    · rw [if_neg e]; simp [e]
  have fl : (((hL S).filter (hasO S)).filter fun x => decide (0 < p x)).filter (fun x => decide (0 < (if x = x0 then (0 : Int32) else p x))) = ((hL S).filter (hasO S)).filter fun x => decide (0 < (if x = x0 then (0 : Int32) else p x)) := by
    rw [List.filter_filter]
    refine List.filter_congr fun x _ => ?_
    by_cases e : x = x0
    · rw [if_pos e]; simp
    · rw [if_neg e]; simp
  obtain ⟨u2, t1, t2, t3, t4⟩ := k_tidies e2'
  rw [fl] at t2
  refine ⟨u1, u2, e1, t1, ⟨t2, fun t ht => ?_, s3.wr (t4 58 (by decide)) (t4 59 (by decide))⟩, fun hno => ⟨?_, s2, s3⟩, e5, fun k hk => by rw [t3 k hk, e5], e6, fun k hk => by rw [t4 k ⟨hk.1, hk.2.1, hk.2.2.1, hk.2.2.2.1, hk.2.2.2.2.1⟩, e6 k ⟨hk.2.2.2.1, hk.2.2.2.2.2.1, hk.2.2.2.2.2.2.1, hk.2.2.2.2.2.2.2⟩]⟩
  · rw [t4 51 (by decide), t4 52 (by decide)]; exact s2 t ht
  · have fl2 : ((hL S).filter (hasO S)).filter (fun x => decide (0 < (if x = x0 then (0 : Int32) else p x))) = ((hL S).filter (hasO S)).filter fun x => decide (0 < p x) := by
      refine List.filter_congr fun x hx => ?_
      rw [if_neg (show ¬ x = x0 from fun r => hno (r ▸ (List.mem_filter.mp hx).2))]
    rw [fl2]; exact e2'
/-- what holds in the end -/
theorem Rel.fin (h : Rel B k S w) {B' k' : Nat} {p st q : Nat → Int32} (hp : PF S p st q) (hx : KX S v p st q) (hA : ∀ f, f ≠ 7 ∧ f ≠ 204 ∧ f ≠ 402 ∧ f ≠ 403 ∧ f ≠ 1004 ∧ f ≠ 1005 ∧ f ≠ 1118 → zA T f = zA S f) (hO1 : zO T = zO S) (hL1 : ∀ f, f ≠ 1107 → zL T f = zL S f) (hC : ∀ f, f ≠ 0 ∧ f ≠ 1 ∧ f ≠ 2 ∧ f ≠ 3 ∧ f ≠ 4 ∧ f ≠ 5 → zC T f = zC S f) (hN : ∀ f, f ≠ 60 ∧ f ≠ 61 ∧ f ≠ 62 → zN T f = zN S f) (hI : ∀ f, f ≠ 0 ∧ f ≠ 2 ∧ f ≠ 39 → mI v f = mI w f) (v2 : mI v 2 = zA T 1118 0) (hB : ∀ f, f ≠ 19 ∧ f ≠ 20 ∧ f ≠ 21 ∧ f ≠ 38 ∧ f ≠ 40 ∧ f ≠ 41 ∧ f ≠ 42 ∧ f ≠ 43 ∧ f ≠ 44 ∧ f ≠ 51 ∧ f ≠ 52 ∧ f ≠ 58 ∧ f ≠ 59 → mA v f = mA w f) (t1 : hL T = (hL S).filter fun x => decide (0 < p x)) (t2 : ∀ x, x ∈ hL S → ¬ p x = 0 → zA T 204 x = p x) (t3 : ∀ t, t < zN S 10 → zA T 1004 t = q t ∧ zA T 1005 t = st t) (t4 : CH T) (hbk : ∀ a l, a < 19 → l < 12 → sz (hL T) (fun x => (hpc T a l x).toInt) ≤ (zC T 0 (12 * a + l)).toInt) (li : g_li T v) (bk : g_bk T v) (nn : g_nn B' T) (tr : g_tr T v) (db : g_db T v) (mv : g_mv T k') (hst : g_st T v) : Rel B' k' T v := by
  obtain ⟨p1, p2, p3, p4, p5⟩ := hp
  obtain ⟨x1, x2, x3⟩ := hx
  have hO : ∀ f, True → zO T f = zO S f := fun f _ => by rw [hO1]
  have pz : ∀ x, x ∈ hL S → (decide (0 < p x) = decide (¬ p x = 0)) := fun x hx => by
    rw [decide_eq_decide]; exact (pos_0 (tI_of (p1 x hx).1).1).1
  have t1' : hL T = (hL S).filter fun x => decide (¬ p x = 0) := by
    rw [t1]; exact List.filter_congr fun x hx => pz x hx
  obtain ⟨ho, hs, hm, ta, ap, ro⟩ := h.red (T := T) (v := v) (p := p) (q := q) ⟨fun f hf => hA f (by omega), fun f _ => hO f trivial, fun f hf => hL1 f (by omega), fun f hf => hN f (by omega)⟩ t1' t2 t3 t4 ⟨hI 45 (by decide), fun k hk => hB k (by omega)⟩ (by
    have e : ((hL S).filter (hasO S)).filter (fun x => decide (0 < p x)) = ((hL S).filter (hasO S)).filter fun x => decide (¬ p x = 0) := List.filter_congr fun x hx => pz x (List.mem_filter.mp hx).1
    rw [← e]; exact x1) x2 (x3.cg fun r hr => by
    unfold rowS
    rw [hL1 800 (by decide), List.filter_filter]
    refine List.filter_congr fun t ht => ?_
    have htN := ((h.ro.1 r hr).2.2.2.2.2.1 t ht).1
    rw [(t3 t htN).2]
    by_cases e : st t = 1
    · rw [(p4 t htN).2 e]; simp [e]
    · simp [e]) (fun x hx => (p1 x hx).1) p2 p3 p4 p5 hbk
  have sc : g_sc T v := ⟨by rw [hI 1 (by decide), hA 1116 (by decide)]; exact h.sc.1, v2, by rw [hI 3 (by decide), hA 1117 (by decide)]; exact h.sc.2.2⟩
  have hL := hL1
  exact ⟨(cg_sl (hA 900 (by decide)) (hA 901 (by decide)) (hA 903 (by decide)) (hA 904 (by decide)) (hO 902 (by decide)) (hB 4 (by decide)) (hB 5 (by decide)) (hB 6 (by decide)) (hB 7 (by decide)) (hB 8 (by decide)) h.sl), (cg_it (hA 300 (by decide)) (hA 301 (by decide)) (hA 302 (by decide)) (hA 303 (by decide)) (hA 304 (by decide)) (hA 305 (by decide)) (hB 9 (by decide)) (hB 10 (by decide)) (hB 11 (by decide)) (hB 12 (by decide)) (hB 13 (by decide)) h.it), (cg_ba (hA 1115 (by decide)) (hB 14 (by decide)) h.ba), sc, (cg_lo (hN 5 (by decide)) (hL 1103 (by decide)) (hA 500 (by decide)) (hA 502 (by decide)) (hA 503 (by decide)) (hO 501 (by decide)) (hI 15 (by decide)) (hB 16 (by decide)) (hB 17 (by decide)) (hB 18 (by decide)) h.lo), (cg_be (hL 1104 (by decide)) (hN 5 (by decide)) (hA 502 (by decide)) h.be), (cg_no (hN 6 (by decide)) (hL 1105 (by decide)) (hO 600 (by decide)) (hA 601 (by decide)) (hA 602 (by decide)) (hI 22 (by decide)) (hB 23 (by decide)) (hB 24 (by decide)) (hB 25 (by decide)) h.no), (cg_ca (hC 1110 (by decide)) (hB 26 (by decide)) h.ca), (cg_aw (hC 1111 (by decide)) (hN 7 (by decide)) (hA 705 (by decide)) (hB 33 (by decide)) h.aw), (cg_or (hN 7 (by decide)) (hN 72 (by decide)) (hL 1106 (by decide)) (hA 700 (by decide)) (hA 701 (by decide)) (hA 702 (by decide)) (hA 703 (by decide)) (hA 705 (by decide)) (hI 27 (by decide)) (hB 28 (by decide)) (hB 29 (by decide)) (hB 30 (by decide)) (hB 31 (by decide)) (hB 32 (by decide)) h.or), li, bk, nn, tr, db, mv, ho, hs, hm, ta, ap, ro, hst, (cg_bx (hN 7 (by decide)) (hA 705 (by decide)) (hA 706 (by decide)) (hC 1112 (by decide)) (hA 302 (by decide)) (hA 303 (by decide)) (hA 304 (by decide)) (hO 501 (by decide)) (hN 5 (by decide)) (hB 34 (by decide)) (hB 35 (by decide)) h.bx)⟩
end
