/-! the reference: a task keeps what is left -/
section
variable {B k : Nat} {S : Ss} {w v u w0 : MS}
theorem mn_mn (a b : Int32) : mn a (mn a b) = mn a b := by
  unfold mn
  by_cases h : b < a
  · rw [if_pos h, if_pos h]
  · rw [if_neg h, if_neg (fun r => by have := Int32.lt_iff_toInt_lt.mp r; omega)]
theorem k_keeps {M : List Nat} {f : Nat → Int32} {R : Nat → List Nat} {t : Nat} {ρ : Option Nat} (y : Int32) (h : RW S w M f) (hb : RB w R) (ht : t < 60) (h53 : mA w 53 t = fcI ρ) (hρ : ∀ r, ρ = some r → r < 3) (hR : ∀ r, r < 3 → t ∈ R r → ρ = some r) : ∃ v, g_X12_keeps (nI t) y w = some (mn (mA w 51 t) y, v) ∧ RW S v M (fun x => if zO S 205 x = some t ∧ mn (mA w 51 t) y = 0 then 0 else f x) ∧ RB v (fun r => if mn (mA w 51 t) y = 0 then (R r).filter fun x => decide (x ≠ t) else R r) ∧ (∀ j, mA v 51 j = if j = t then mn (mA w 51 t) y else mA w 51 j) ∧ (∀ j, mA v 52 j = if j = t ∧ mn (mA w 51 t) y = 0 then 3 else mA w 52 j) ∧ mI v = mI w ∧ ∀ k, k ≠ 43 ∧ k ≠ 51 ∧ k ≠ 52 ∧ k ≠ 58 ∧ k ≠ 59 → mA v k = mA w k := by
  obtain ⟨z, hz⟩ : ∃ z, z = mn (mA w 51 t) y := ⟨_, rfl⟩
  obtain ⟨w1, hw1⟩ : ∃ w1, w1 = mSA 51 t z w := ⟨_, rfl⟩
  have j51 : t < mL 51 := ht
  have m51 : ∀ j, mA w1 51 j = if j = t then z else mA w 51 j := fun j => by rw [hw1, sBA]
  have mF : ∀ k, k ≠ 51 → mA w1 k = mA w k := fun k hk => by rw [hw1, fBA hk]
  have run : g_X12_keeps (nI t) y w = if z = 0 then gbn (g_X12_ends (nI t) 3 w1) fun _ v => some (mA v 51 t, v) else some (z, w1) := by
    have e51 : mA w1 51 t = z := by rw [m51, if_pos rfl]
    simp only [g_X12_keeps, g_X12_keeps_31, r_grd, r_gix _ (vp_in_nI j51 (show mL 51 < 2 ^ 31 by decide)), r_gb, k_less, mn_less, gbn_s, r_gst, nI_clamp (show t < 2 ^ 31 by omega), ← hz, ← hw1, e51, kif, r_gret]
  rw [run, ← hz]
  have hw2 : RW S w1 M f := h.wr (by rw [hw1]; rfl) (mF 40 (by decide)) (mF 41 (by decide)) (mF 42 (by decide)) (mF 43 (by decide)) (mF 44 (by decide))
  have hb2 : RB w1 R := hb.wr (mF 58 (by decide)) (mF 59 (by decide))
  by_cases q : z = 0
  · rw [if_pos q]
    obtain ⟨v, e1, e2, e3, e4, e5, e6⟩ := k_ends 3 hw2 hb2 ht (by rw [mF 53 (by decide)]; exact h53) hρ hR
    refine ⟨v, ?_, e2.cg fun x _ => ?_, e3.cg fun r _ => ?_, fun j => ?_, fun j => ?_, e5.trans (by rw [hw1]; rfl), fun k hk => by rw [e6 k ⟨hk.1, hk.2.2.1, hk.2.2.2.1, hk.2.2.2.2⟩, mF k hk.2.1]⟩
    · rw [e1, gbn_s, e6 51 (by decide), m51, if_pos rfl]
    · by_cases e : zO S 205 x = some t
      · rw [if_pos e, if_pos ⟨e, q⟩]
      · rw [if_neg e, if_neg (fun r => e r.1)]
    · rw [if_pos q]
    · rw [e6 51 (by decide), m51]
    · rw [e4, mF 52 (by decide)]
      by_cases e : j = t
      · rw [if_pos e, if_pos ⟨e, q⟩]
      · rw [if_neg e, if_neg (fun r => e r.1)]
  · rw [if_neg q]
    refine ⟨w1, rfl, hw2.cg fun x _ => by rw [if_neg (fun r => q r.2)], hb2.cg fun r _ => by rw [if_neg q], m51, fun j => by rw [if_neg (fun r => q r.2), mF 52 (by decide)], by rw [hw1]; rfl, fun k hk => mF k hk.2.1⟩
/-- the reference, when the holdings of a list were cut -/
def KI (S : Ss) (w v : MS) (f0 : Option Nat) (xs : List Nat) (r : Int32) : Prop := RW S v ((hL S).filter (hasO S)) (fun x => if some x = f0 then zA S 204 x else fcut (zA S 204) xs r x) ∧ RB v (fun q => (rowS S q).filter fun t => decide (mA v 52 t = 1)) ∧ (∀ x t, x ∈ xs → ¬ some x = f0 → zO S 205 x = some t → mA v 51 t = fcut (zA S 204) xs r x ∧ mA v 52 t = if fcut (zA S 204) xs r x = 0 then 3 else mA w 52 t) ∧ (∀ t, (¬ ∃ x, x ∈ xs ∧ ¬ some x = f0 ∧ zO S 205 x = some t) → mA v 51 t = mA w 51 t ∧ mA v 52 t = mA w 52 t) ∧ mI v = mI w ∧ ∀ k, k ≠ 43 ∧ k ≠ 51 ∧ k ≠ 52 ∧ k ≠ 58 ∧ k ≠ 59 → mA v k = mA w k
/-- where the reference begins -/
def KB (S : Ss) (w0 w : MS) (f0 : Option Nat) : Prop := (∀ x t, x ∈ hL S → ¬ some x = f0 → zO S 205 x = some t → mA w 51 t = zA S 204 x) ∧ (∀ k, k = 40 ∨ k = 41 ∨ k = 42 ∨ k = 43 ∨ k = 44 ∨ k = 46 ∨ k = 47 ∨ k = 48 ∨ k = 52 ∨ k = 53 ∨ k = 58 ∨ k = 59 → mA w k = mA w0 k) ∧ ∀ k, k = 39 ∨ k = 45 → mI w k = mI w0 k
theorem KI.rf (h : Rel B k S w0) {f0 : Option Nat} (hb : KB S w0 w f0) (r : Int32) : KI S w w f0 f0.toList r := by
  obtain ⟨b1, b2, b3⟩ := hb
  refine ⟨(h.rw.wr (b3 39 (by decide)) (b2 40 (by decide)) (b2 41 (by decide)) (b2 42 (by decide)) (b2 43 (by decide)) (b2 44 (by decide))).cg fun x _ => ?_, (h.rb.wr (b2 58 (by decide)) (b2 59 (by decide))).cg fun q hq => ?_, fun x t hx hn => ?_, fun t _ => ⟨rfl, rfl⟩, rfl, fun _ _ => rfl⟩
  · by_cases e : some x = f0
    · rw [if_pos e]
    · rw [if_neg e, fcut_n]
      intro hx
      cases f0 with
      | none => cases hx
      | some y => rw [List.mem_singleton.mp hx] at e; exact e rfl
  · refine (List.filter_eq_self.mpr fun t ht => ?_).symm
    obtain ⟨m1, m2⟩ := List.mem_filter.mp ht
    have htN := ((h.ro.1 q hq).2.2.2.2.2.1 t m1).1
    rw [b2 52 (by decide), (h.ta.2.2.2 t htN).2.2.2.2.1]
    exact m2
  · cases f0 with
    | none => cases hx
    | some y => rw [List.mem_singleton.mp hx] at hn; exact absurd rfl hn
/-- the task of a holding is cut -/
theorem KI.tsk (h : Rel B k S w0) {f0 : Option Nat} (hb : KB S w0 w f0) {xs : List Nat} {r : Int32} {X t : Nat} {M' : Nat → Int32} (hX : X ∈ hL S) (hX0 : ¬ some X = f0) (hXn : X ∉ xs) (hs : ∀ x, x ∈ xs → x ∈ hL S) (ht : zO S 205 X = some t) (y : Int32) (hy : mn (zA S 204 X) y = mn (zA S 204 X) (rcut (zA S 204) xs r)) (i1 : RW S v ((hL S).filter (hasO S)) (fun x => if some x = f0 then zA S 204 x else fcut (zA S 204) (xs ++ [X]) r x)) (i2 : RB v (fun q => (rowS S q).filter fun t => decide (mA v 52 t = 1))) (i3 : ∀ x t, x ∈ xs → ¬ some x = f0 → zO S 205 x = some t → mA v 51 t = fcut (zA S 204) xs r x ∧ mA v 52 t = if fcut (zA S 204) xs r x = 0 then 3 else mA w 52 t) (i4 : ∀ t, (¬ ∃ x, x ∈ xs ∧ ¬ some x = f0 ∧ zO S 205 x = some t) → mA v 51 t = mA w 51 t ∧ mA v 52 t = mA w 52 t) (i5 : mI v = mI w) (i6 : ∀ k, k ≠ 43 ∧ k ≠ 51 ∧ k ≠ 52 ∧ k ≠ 58 ∧ k ≠ 59 → mA v k = mA w k) : ∃ u, g_X12_keeps (nI t) y v = some (mn (zA S 204 X) (rcut (zA S 204) xs r), u) ∧ KI S w u f0 (xs ++ [X]) r := by
  obtain ⟨b1, b2, b3⟩ := hb
  have h60 := h.ta.1
  obtain ⟨d1, d2, d3, d4⟩ := (h.ho.2.1 X hX).2.2.2.2.2 t ht
  obtain ⟨ρ, p1, p2, p3⟩ := h.rob d1 d3
  have uq : ∀ x, x ∈ hL S → zO S 205 x = some t → x = X := fun x hx q => h.co.uq hx hX q ht
  have fr : ¬ ∃ x, x ∈ xs ∧ ¬ some x = f0 ∧ zO S 205 x = some t := fun ⟨x, x1, _, x3⟩ => hXn (uq x (hs x x1) x3 ▸ x1)
  obtain ⟨f1, f2⟩ := i4 t fr
  have e51 : mA v 51 t = zA S 204 X := f1.trans (b1 X t hX hX0 ht)
  obtain ⟨u, u1, u2, u3, u4, u5, u6, u7⟩ := k_keeps y i1 i2 (show t < 60 by omega) (by rw [i6 53 (by decide), b2 53 (by decide)]; exact p1) p2 (fun r hr hm => p3 r hr (List.mem_filter.mp hm).1)
  rw [e51, hy] at u1 u2 u3 u4 u5
  have fX : fcut (zA S 204) (xs ++ [X]) r X = mn (zA S 204 X) (rcut (zA S 204) xs r) := by rw [fcut_app xs r X hXn, if_pos rfl]
  refine ⟨u, u1, u2.cg fun x hx => ?_, u3.cg fun q hq => ?_, fun x t' hx hx0 hxt => ?_, fun t' ht' => ?_, u6.trans i5, fun k hk => (u7 k hk).trans (i6 k hk)⟩
  · by_cases e : zO S 205 x = some t ∧ mn (zA S 204 X) (rcut (zA S 204) xs r) = 0
    · have ex := uq x (List.mem_filter.mp hx).1 e.1
      rw [if_pos e, ex, if_neg hX0, fX, e.2]
    · rw [if_neg e]
  · by_cases e : mn (zA S 204 X) (rcut (zA S 204) xs r) = 0
    · rw [if_pos e, List.filter_filter]
      refine List.filter_congr fun x _ => ?_
      rw [u5]
      by_cases e2 : x = t
      · rw [if_pos ⟨e2, e⟩]; simp [e2]
      · rw [if_neg (fun r => e2 r.1)]; simp [e2]
    · rw [if_neg e]
      refine List.filter_congr fun x _ => ?_
      rw [u5, if_neg (fun r => e r.2)]
  · rw [u4, u5]
    by_cases e : x = X
    · subst e
      have : t' = t := Option.some.inj (hxt.symm.trans ht)
      subst this
      rw [if_pos rfl, fX]
      refine ⟨rfl, ?_⟩
      by_cases z : mn (zA S 204 x) (rcut (zA S 204) xs r) = 0
      · rw [if_pos ⟨rfl, z⟩, if_pos z]
      · rw [if_neg (fun r => z r.2), if_neg z, f2]
    · have hx' : x ∈ xs := by
        rcases List.mem_append.mp hx with q | q
        · exact q
        · exact absurd (List.mem_singleton.mp q) e
      have nt : ¬ t' = t := fun q => e (uq x (hs x hx') (q ▸ hxt))
      rw [if_neg nt, if_neg (fun r => nt r.1), fcut_app xs r x hXn, if_neg e]
      exact i3 x t' hx' hx0 hxt
  · have nt : ¬ t' = t := fun q => ht' ⟨X, List.mem_append_right _ (List.mem_singleton.mpr rfl), hX0, q ▸ ht⟩
    rw [u4, u5, if_neg nt, if_neg (fun r => nt r.1)]
    exact i4 t' fun ⟨x, x1, x2, x3⟩ => ht' ⟨x, List.mem_append_left _ x1, x2, x3⟩
/-- a row of the reference is cut -/
theorem KI.row (h : Rel B k S w0) {f0 : Option Nat} (hb : KB S w0 w f0) {xs : List Nat} {r : Int32} {X j : Nat} (hX : X ∈ hL S) (hj : ((hL S).filter (hasO S))[j]? = some X) (hX0 : ¬ some X = f0) (hXn : X ∉ xs) (hs : ∀ x, x ∈ xs → x ∈ hL S) (hI : KI S w v f0 xs r) : (zO S 205 X = none → KI S w (mSA 43 j (mn (zA S 204 X) (rcut (zA S 204) xs r)) v) f0 (xs ++ [X]) r) ∧ ∀ t, zO S 205 X = some t → ∃ u, g_X12_keeps (nI t) (mn (zA S 204 X) (rcut (zA S 204) xs r)) (mSA 43 j (mn (zA S 204 X) (rcut (zA S 204) xs r)) v) = some (mn (zA S 204 X) (rcut (zA S 204) xs r), u) ∧ KI S w u f0 (xs ++ [X]) r := by
  obtain ⟨i1, i2, i3, i4, i5, i6⟩ := hI
  have fap : ∀ x, fcut (zA S 204) (xs ++ [X]) r x = if x = X then mn (zA S 204 X) (rcut (zA S 204) xs r) else fcut (zA S 204) xs r x := fun x => fcut_app xs r x hXn
  have j1 : RW S (mSA 43 j (mn (zA S 204 X) (rcut (zA S 204) xs r)) v) ((hL S).filter (hasO S)) (fun x => if some x = f0 then zA S 204 x else fcut (zA S 204) (xs ++ [X]) r x) := (i1.set hj _).cg fun x _ => by
    rw [fap]
    by_cases e : x = X
    · rw [if_pos e, if_pos e, if_neg (show ¬ some x = f0 from fun q => hX0 (e ▸ q))]
    · rw [if_neg e, if_neg e]
  have m52 : mA (mSA 43 j (mn (zA S 204 X) (rcut (zA S 204) xs r)) v) 52 = mA v 52 := fBA (by decide)
  have m51 : mA (mSA 43 j (mn (zA S 204 X) (rcut (zA S 204) xs r)) v) 51 = mA v 51 := fBA (by decide)
  have j2 : RB (mSA 43 j (mn (zA S 204 X) (rcut (zA S 204) xs r)) v) (fun q => (rowS S q).filter fun t => decide (mA (mSA 43 j (mn (zA S 204 X) (rcut (zA S 204) xs r)) v) 52 t = 1)) := by
    rw [m52]; exact i2.wr (fBA (by decide)) (fBA (by decide))
  have j6 : ∀ k, k ≠ 43 ∧ k ≠ 51 ∧ k ≠ 52 ∧ k ≠ 58 ∧ k ≠ 59 → mA (mSA 43 j (mn (zA S 204 X) (rcut (zA S 204) xs r)) v) k = mA w k := fun k hk => by rw [fBA hk.1]; exact i6 k hk
  refine ⟨fun hn => ⟨j1, j2, fun x t hx hx0 hxt => ?_, fun t ht => ?_, i5, j6⟩, fun t ht => ?_⟩
  · have hx' : x ∈ xs := by
      rcases List.mem_append.mp hx with q | q
      · exact q
      · rw [List.mem_singleton.mp q, hn] at hxt; cases hxt
    rw [m51, m52, fap, if_neg (show ¬ x = X from fun e => hXn (e ▸ hx'))]
    exact i3 x t hx' hx0 hxt
  · rw [m51, m52]
    exact i4 t fun ⟨x, x1, x2, x3⟩ => ht ⟨x, List.mem_append_left _ x1, x2, x3⟩
  · exact KI.tsk (M' := zA S 204) h hb hX hX0 hXn hs ht _ (mn_mn _ _) j1 j2 (fun x t hx hx0 hxt => by rw [m51, m52]; exact i3 x t hx hx0 hxt) (fun t ht => by rw [m51, m52]; exact i4 t ht) i5 j6
end
