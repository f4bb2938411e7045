/-! the reference's constructor -/
def iR (ks : List Nat) (m : Nat) (arr : Nat → Nat) (σ : St) : Prop := (∀ k, k ∈ ks → sR σ (1200 + k) m = some (arr k) ∧ sL σ (arr k) = mL k ∧ (sK σ (arr k) = 21 ∨ sK σ (arr k) = 22) ∧ sA σ (arr k) = fun _ => 0) ∧ (∀ k j, k ∈ ks → j ∈ ks → arr k = arr j → k = j) ∧ sK σ m = 13 ∧ (∀ f, sI σ f m = 0) ∧ (sA σ m = fun _ => 0) ∧ ∀ k, k ∉ ks → arr k = m
theorem iR.step {ks : List Nat} {m q κ len k : Nat} {arr : Nat → Nat} {σ s t : St} (h : iR ks m arr σ) (hq : sK σ q = 0) (e : s = newA κ q len σ) (e2 : t = setR (1200 + k) m (some q) s) (hk : k ∉ ks) (hκ : κ = 21 ∨ κ = 22) (hl : len = mL k) : iR (k :: ks) m (u1 k q arr) t := by
  obtain ⟨h1, h2, h3, h4, h5, h6⟩ := h
  have hm : m ≠ q := fun r => by rw [r, hq] at h3; cases h3
  have hx : ∀ j, j ∈ ks → arr j ≠ q := fun j hj r => by
    have := (h1 j hj).2.2.1
    rw [r, hq] at this
    rcases this with y | y <;> cases y
  have uk : u1 k q arr k = q := if_pos rfl
  have un : ∀ j, j ≠ k → u1 k q arr j = arr j := fun j hj => if_neg hj
  have nk : ∀ j, j ∈ ks → j ≠ k := fun j hj r => hk (r ▸ hj)
  subst e2; subst e
  refine ⟨fun j hj => ?_, fun j i hj hi e => ?_, ?_, fun f => h4 f, ?_, fun j hj => ?_⟩
  · rcases List.mem_cons.mp hj with r | r
    · subst r
      rw [uk]
      refine ⟨if_pos ⟨rfl, rfl⟩, ?_, ?_, ?_⟩
      · rw [← hl]; exact if_pos rfl
      · have : sK (setR (1200 + j) m (some q) (newA κ q len σ)) q = κ := if_pos rfl
        rw [this]; exact hκ
      · exact funext fun _ => if_pos rfl
    · obtain ⟨a1, a2, a3, a4⟩ := h1 j r
      rw [un j (nk j r)]
      have hn := hx j r
      refine ⟨?_, ?_, ?_, ?_⟩
      · exact (if_neg (show ¬ (1200 + j = 1200 + k ∧ m = m) from fun e => nk j r (by omega))).trans a1
      · exact (if_neg hn).trans a2
      · have : sK (setR (1200 + k) m (some q) (newA κ q len σ)) (arr j) = sK σ (arr j) := if_neg hn
        rw [this]; exact a3
      · rw [← a4]; exact funext fun _ => if_neg hn
  · rcases List.mem_cons.mp hj with r | r
    · rcases List.mem_cons.mp hi with r2 | r2
      · rw [r, r2]
      · rw [r, uk, un i (nk i r2)] at e
        exact absurd e.symm (hx i r2)
    · rcases List.mem_cons.mp hi with r2 | r2
      · rw [r2, uk, un j (nk j r)] at e
        exact absurd e (hx j r)
      · rw [un j (nk j r), un i (nk i r2)] at e
        exact h2 j i r r2 e
  · exact (if_neg hm).trans h3
  · rw [← h5]; exact funext fun _ => if_neg hm
  · have r := mt (fun r => List.mem_cons.mpr (Or.inl r)) hj
    rw [un j r]
    exact h6 j fun r => hj (List.mem_cons.mpr (Or.inr r))
def vI (f : Nat) : Int32 := match f with
  | 5 => 100
  | 6 => -1
  | 10 => 1
  | 11 => 1
  | 13 => 1
  | 21 => -1
  | 55 => -1
  | _ => 0
def wI (n : Nat → Nat) : MS := (fun _ => 0, fun f q => if q < n f then vI f else 0)
theorem wI_set {n : Nat → Nat} {k i : Nat} (h : n k = i) : mSA k i (vI k) (wI n) = wI (u1 k (i + 1) n) := by
  refine Prod.ext rfl (funext fun f => funext fun q => ?_)
  show (if f = k ∧ q = i then vI k else if q < n f then vI f else 0) = if q < (if f = k then i + 1 else n f) then vI f else 0
  by_cases e : f = k
  · subst e
    rw [if_pos (rfl : f = f)]
    by_cases e2 : q = i
    · rw [if_pos ⟨rfl, e2⟩, if_pos (by omega)]
    · rw [if_neg (fun r => e2 r.2), h]
      by_cases e3 : q < i
      · rw [if_pos e3, if_pos (by omega)]
      · rw [if_neg e3, if_neg (by omega)]
  · rw [if_neg (fun r => e r.1), if_neg e]
def iW (m : Nat) (arr : Nat → Nat) (σ : St) (n : Nat → Nat) : Prop := RF m arr σ ∧ absM m arr σ = wI n ∧ sK σ m = 13 ∧ (∀ k, isA k = true → sK σ (arr k) = 21 ∨ sK σ (arr k) = 22) ∧ ∀ k, isA k = false → arr k = m
theorem iW.set {m k i : Nat} {arr : Nat → Nat} {σ s : St} {n : Nat → Nat} (h : iW m arr σ n) (hk : isA k = true) (hn : n k = i) (e : s = setA (arr k) i (vI k) σ) : iW m arr s (u1 k (i + 1) n) := by
  obtain ⟨h1, h2, h3, h4, h5⟩ := h
  refine ⟨h1.setA e, ?_, by rw [e]; exact h3, fun j hj => by rw [e]; exact h4 j hj, h5⟩
  rw [abs_setA h1 k hk e, h2, wI_set hn]

def kI : List Nat := [64, 63, 62, 61, 60, 59, 58, 57, 56, 55, 54, 53, 52, 51, 50, 49, 48, 47, 46, 44, 43, 42, 41, 40, 38, 37, 36, 35, 34, 33, 32, 31, 30, 29, 28, 26, 25, 24, 23, 21, 20, 19, 18, 17, 16, 14, 13, 12, 11, 10, 9, 8, 7, 6, 5, 4]

theorem kI_a : ∀ k, isA k = true → k ∈ kI := fun k hk => by
  have hb : k < 65 := by
    refine Classical.byContradiction fun r => ?_
    have : mL k = 0 := by unfold mL; split <;> first | omega | rfl
    unfold isA at hk
    rw [this] at hk; cases hk
  have key : ∀ k, k < 65 → isA k = true → k ∈ kI := by decide
  exact key k hb hk
theorem kI_b : ∀ k, isA k = false → k ∉ kI := by
  have key : ∀ k, k ∈ kI → isA k = true := by decide
  intro k h1 h2
  rw [key k h2] at h1; cases h1
theorem iR.fin {m : Nat} {arr : Nat → Nat} {σ : St} (h : iR kI m arr σ) : iW m arr σ (fun _ => 0) := by
  obtain ⟨h1, h2, h3, h4, h5, h6⟩ := h
  refine ⟨⟨fun k q => (h1 k (kI_a k q)).1, fun k q => (h1 k (kI_a k q)).2.1, fun k j q e => ?_⟩, ?_, h3, fun k q => (h1 k (kI_a k q)).2.2.1, fun k q => h6 k (kI_b k q)⟩
  · by_cases r : j ∈ kI
    · exact h2 k j (kI_a k q) r e
    · rw [h6 j r] at e
      have := (h1 k (kI_a k q)).2.2.1
      rw [e, h3] at this
      rcases this with y | y <;> cases y
  · refine Prod.ext (funext fun k => h4 _) (funext fun k => ?_)
    have z : (wI fun _ => 0).2 k = fun _ => 0 := funext fun q => (show (if q < 0 then vI k else 0) = 0 from if_neg (Nat.not_lt_zero q))
    rw [z]
    show sA σ (arr k) = _
    by_cases r : k ∈ kI
    · exact (h1 k r).2.2.2
    · rw [h6 k r]; exact h5

def nF (a b c d f : Nat) : Nat := match f with
  | 5 => a
  | 6 => a
  | 10 => b
  | 11 => b
  | 13 => b
  | 21 => c
  | 55 => d
  | _ => 0

theorem r_550 {Q : St → Prop} {m k n : Nat} {arr : Nat → Nat} (hQ : ∀ s, iW m arr s (nF 18 6 216 3) → Q s) : ∀ d i, i + d = 3 → ∀ σ, iW m arr σ (nF 18 6 216 i) → w_X12_init_550 Q (d + 1) m (nI i) σ k n
  | 0, i, hd, σ, h => by
    have e : i = 3 := by omega
    subst e
    unfold w_X12_init_550
    exact ⟨fun _ => hQ σ h, fun q => absurd (show (3 : Int32) ≤ nI 3 by decide) q⟩
  | d + 1, i, hd, σ, h => by
    have hi : i < 3 := by omega
    have hc : (nI i).toNatClampNeg = i := nI_clamp (by omega)
    unfold w_X12_init_550
    refine ⟨fun q => absurd q (nI_ge (b := 3) hi (by decide)), fun _ => ?_⟩
    refine fun o0 p0 => ⟨arr 55, p0.trans (h.1.ref 55 rfl), (by rw [h.1.len 55 rfl]; exact vp_in_nI (show i < mL 55 from hi) (show mL 55 < 2 ^ 31 by decide)), fun s0 e0 => ?_⟩
    rw [hc] at e0
    have h0 := h.set (k := 55) rfl (i := i) rfl e0
    have en : (u1 55 (i + 1) (nF 18 6 216 i)) = nF 18 6 216 (i + 1) := funext fun f => by
      show (if f = 55 then i + 1 else nF 18 6 216 i f) = nF 18 6 216 (i + 1) f
      by_cases c55 : f = 55
      · subst c55; rfl
      rw [if_neg c55]
      unfold nF
      split <;> first | rfl | contradiction
    rw [en] at h0
    rw [nI_1]
    exact r_550 hQ d (i + 1) (by omega) s0 h0

theorem r_528 {Q : St → Prop} {m k n : Nat} {arr : Nat → Nat} (hQ : ∀ s, iW m arr s (nF 18 6 216 0) → ∃ f, w_X12_init_550 Q f m 0 s k n) : ∀ d i, i + d = 216 → ∀ σ, iW m arr σ (nF 18 6 i 0) → w_X12_init_528 Q (d + 1) m (nI i) σ k n
  | 0, i, hd, σ, h => by
    have e : i = 216 := by omega
    subst e
    unfold w_X12_init_528
    exact ⟨fun _ => hQ σ h, fun q => absurd (show (216 : Int32) ≤ nI 216 by decide) q⟩
  | d + 1, i, hd, σ, h => by
    have hi : i < 216 := by omega
    have hc : (nI i).toNatClampNeg = i := nI_clamp (by omega)
    unfold w_X12_init_528
    refine ⟨fun q => absurd q (nI_ge (b := 216) hi (by decide)), fun _ => ?_⟩
    refine fun o0 p0 => ⟨arr 21, p0.trans (h.1.ref 21 rfl), (by rw [h.1.len 21 rfl]; exact vp_in_nI (show i < mL 21 from hi) (show mL 21 < 2 ^ 31 by decide)), fun s0 e0 => ?_⟩
    rw [hc] at e0
    have h0 := h.set (k := 21) rfl (i := i) rfl e0
    have en : (u1 21 (i + 1) (nF 18 6 i 0)) = nF 18 6 (i + 1) 0 := funext fun f => by
      show (if f = 21 then i + 1 else nF 18 6 i 0 f) = nF 18 6 (i + 1) 0 f
      by_cases c21 : f = 21
      · subst c21; rfl
      rw [if_neg c21]
      unfold nF
      split <;> first | rfl | contradiction
    rw [en] at h0
    rw [nI_1]
    exact r_528 hQ d (i + 1) (by omega) s0 h0

theorem r_493 {Q : St → Prop} {m k n : Nat} {arr : Nat → Nat} (hQ : ∀ s, iW m arr s (nF 18 6 0 0) → ∃ f, w_X12_init_528 Q f m 0 s k n) : ∀ d i, i + d = 6 → ∀ σ, iW m arr σ (nF 18 i 0 0) → w_X12_init_493 Q (d + 1) m (nI i) σ k n
  | 0, i, hd, σ, h => by
    have e : i = 6 := by omega
    subst e
    unfold w_X12_init_493
    exact ⟨fun _ => hQ σ h, fun q => absurd (show (6 : Int32) ≤ nI 6 by decide) q⟩
  | d + 1, i, hd, σ, h => by
    have hi : i < 6 := by omega
    have hc : (nI i).toNatClampNeg = i := nI_clamp (by omega)
    unfold w_X12_init_493
    refine ⟨fun q => absurd q (nI_ge (b := 6) hi (by decide)), fun _ => ?_⟩
    refine fun o0 p0 => ⟨arr 10, p0.trans (h.1.ref 10 rfl), (by rw [h.1.len 10 rfl]; exact vp_in_nI (show i < mL 10 from hi) (show mL 10 < 2 ^ 31 by decide)), fun s0 e0 => ?_⟩
    rw [hc] at e0
    have h0 := h.set (k := 10) rfl (i := i) rfl e0
    refine fun o1 p1 => ⟨arr 11, p1.trans (h0.1.ref 11 rfl), (by rw [h0.1.len 11 rfl]; exact vp_in_nI (show i < mL 11 from hi) (show mL 11 < 2 ^ 31 by decide)), fun s1 e1 => ?_⟩
    rw [hc] at e1
    have h1 := h0.set (k := 11) rfl (i := i) rfl e1
    refine fun o2 p2 => ⟨arr 13, p2.trans (h1.1.ref 13 rfl), (by rw [h1.1.len 13 rfl]; exact vp_in_nI (show i < mL 13 from hi) (show mL 13 < 2 ^ 31 by decide)), fun s2 e2 => ?_⟩
    rw [hc] at e2
    have h2 := h1.set (k := 13) rfl (i := i) rfl e2
    have en : (u1 13 (i + 1) (u1 11 (i + 1) (u1 10 (i + 1) (nF 18 i 0 0)))) = nF 18 (i + 1) 0 0 := funext fun f => by
      show (if f = 13 then i + 1 else if f = 11 then i + 1 else if f = 10 then i + 1 else nF 18 i 0 0 f) = nF 18 (i + 1) 0 0 f
      by_cases c13 : f = 13
      · subst c13; rfl
      rw [if_neg c13]
      by_cases c11 : f = 11
      · subst c11; rfl
      rw [if_neg c11]
      by_cases c10 : f = 10
      · subst c10; rfl
      rw [if_neg c10]
      unfold nF
      split <;> first | rfl | contradiction
    rw [en] at h2
    rw [nI_1]
    exact r_493 hQ d (i + 1) (by omega) s2 h2

theorem r_464 {Q : St → Prop} {m k n : Nat} {arr : Nat → Nat} (hQ : ∀ s, iW m arr s (nF 18 0 0 0) → ∃ f, w_X12_init_493 Q f m 0 s k n) : ∀ d i, i + d = 18 → ∀ σ, iW m arr σ (nF i 0 0 0) → w_X12_init_464 Q (d + 1) m (nI i) σ k n
  | 0, i, hd, σ, h => by
    have e : i = 18 := by omega
    subst e
    unfold w_X12_init_464
    exact ⟨fun _ => hQ σ h, fun q => absurd (show (18 : Int32) ≤ nI 18 by decide) q⟩
  | d + 1, i, hd, σ, h => by
    have hi : i < 18 := by omega
    have hc : (nI i).toNatClampNeg = i := nI_clamp (by omega)
    unfold w_X12_init_464
    refine ⟨fun q => absurd q (nI_ge (b := 18) hi (by decide)), fun _ => ?_⟩
    refine fun o0 p0 => ⟨arr 5, p0.trans (h.1.ref 5 rfl), (by rw [h.1.len 5 rfl]; exact vp_in_nI (show i < mL 5 from hi) (show mL 5 < 2 ^ 31 by decide)), fun s0 e0 => ?_⟩
    rw [hc] at e0
    have h0 := h.set (k := 5) rfl (i := i) rfl e0
    refine fun o1 p1 => ⟨arr 6, p1.trans (h0.1.ref 6 rfl), (by rw [h0.1.len 6 rfl]; exact vp_in_nI (show i < mL 6 from hi) (show mL 6 < 2 ^ 31 by decide)), fun s1 e1 => ?_⟩
    rw [hc] at e1
    have h1 := h0.set (k := 6) rfl (i := i) rfl e1
    have en : (u1 6 (i + 1) (u1 5 (i + 1) (nF i 0 0 0))) = nF (i + 1) 0 0 0 := funext fun f => by
      show (if f = 6 then i + 1 else if f = 5 then i + 1 else nF i 0 0 0 f) = nF (i + 1) 0 0 0 f
      by_cases c6 : f = 6
      · subst c6; rfl
      rw [if_neg c6]
      by_cases c5 : f = 5
      · subst c5; rfl
      rw [if_neg c5]
      unfold nF
      split <;> first | rfl | contradiction
    rw [en] at h1
    rw [nI_1]
    exact r_464 hQ d (i + 1) (by omega) s1 h1

set_option maxRecDepth 100000 in
theorem r_init {Q : St → Prop} {m : Nat} {σ : St} (h : iR [] m (fun _ => m) σ) (hQ : ∀ arr s, iW m arr s (nF 18 6 216 3) → Q s) : w_X12_init 56 17614 m σ Q := by
  unfold w_X12_init
  refine ⟨by decide, by decide, 55, 17596, rfl, rfl, fun a0 s0 z0 e0 t0 d0 => ?_⟩
  have h0 := h.step (k := 4) z0 e0 d0 (by decide) (Or.inl rfl) rfl
  clear h z0 e0 d0
  refine ⟨by decide, by decide, 54, 17578, rfl, rfl, fun a1 s1 z1 e1 t1 d1 => ?_⟩
  have h1 := h0.step (k := 5) z1 e1 d1 (by decide) (Or.inl rfl) rfl
  clear h0 z1 e1 d1
  refine ⟨by decide, by decide, 53, 17560, rfl, rfl, fun a2 s2 z2 e2 t2 d2 => ?_⟩
  have h2 := h1.step (k := 6) z2 e2 d2 (by decide) (Or.inl rfl) rfl
  clear h1 z2 e2 d2
  refine ⟨by decide, by decide, 52, 17542, rfl, rfl, fun a3 s3 z3 e3 t3 d3 => ?_⟩
  have h3 := h2.step (k := 7) z3 e3 d3 (by decide) (Or.inl rfl) rfl
  clear h2 z3 e3 d3
  refine ⟨by decide, by decide, 51, 17524, rfl, rfl, fun a4 s4 z4 e4 t4 d4 => ?_⟩
  have h4 := h3.step (k := 8) z4 e4 d4 (by decide) (Or.inl rfl) rfl
  clear h3 z4 e4 d4
  refine ⟨by decide, by decide, 50, 17518, rfl, rfl, fun a5 s5 z5 e5 t5 d5 => ?_⟩
  have h5 := h4.step (k := 9) z5 e5 d5 (by decide) (Or.inl rfl) rfl
  clear h4 z5 e5 d5
  refine ⟨by decide, by decide, 49, 17512, rfl, rfl, fun a6 s6 z6 e6 t6 d6 => ?_⟩
  have h6 := h5.step (k := 10) z6 e6 d6 (by decide) (Or.inl rfl) rfl
  clear h5 z6 e6 d6
  refine ⟨by decide, by decide, 48, 17506, rfl, rfl, fun a7 s7 z7 e7 t7 d7 => ?_⟩
  have h7 := h6.step (k := 11) z7 e7 d7 (by decide) (Or.inl rfl) rfl
  clear h6 z7 e7 d7
  refine ⟨by decide, by decide, 47, 17500, rfl, rfl, fun a8 s8 z8 e8 t8 d8 => ?_⟩
  have h8 := h7.step (k := 12) z8 e8 d8 (by decide) (Or.inl rfl) rfl
  clear h7 z8 e8 d8
  refine ⟨by decide, by decide, 46, 17494, rfl, rfl, fun a9 s9 z9 e9 t9 d9 => ?_⟩
  have h9 := h8.step (k := 13) z9 e9 d9 (by decide) (Or.inl rfl) rfl
  clear h8 z9 e9 d9
  refine ⟨by decide, by decide, 45, 17478, rfl, rfl, fun a10 s10 z10 e10 t10 d10 => ?_⟩
  have h10 := h9.step (k := 14) z10 e10 d10 (by decide) (Or.inr rfl) rfl
  clear h9 z10 e10 d10
  refine ⟨by decide, by decide, 44, 17466, rfl, rfl, fun a11 s11 z11 e11 t11 d11 => ?_⟩
  have h11 := h10.step (k := 16) z11 e11 d11 (by decide) (Or.inl rfl) rfl
  clear h10 z11 e11 d11
  refine ⟨by decide, by decide, 43, 17454, rfl, rfl, fun a12 s12 z12 e12 t12 d12 => ?_⟩
  have h12 := h11.step (k := 17) z12 e12 d12 (by decide) (Or.inl rfl) rfl
  clear h11 z12 e12 d12
  refine ⟨by decide, by decide, 42, 17442, rfl, rfl, fun a13 s13 z13 e13 t13 d13 => ?_⟩
  have h13 := h12.step (k := 18) z13 e13 d13 (by decide) (Or.inr rfl) rfl
  clear h12 z13 e13 d13
  refine ⟨by decide, by decide, 41, 17106, rfl, rfl, fun a14 s14 z14 e14 t14 d14 => ?_⟩
  have h14 := h13.step (k := 19) z14 e14 d14 (by decide) (Or.inl rfl) rfl
  clear h13 z14 e14 d14
  refine ⟨by decide, by decide, 40, 16890, rfl, rfl, fun a15 s15 z15 e15 t15 d15 => ?_⟩
  have h15 := h14.step (k := 20) z15 e15 d15 (by decide) (Or.inl rfl) rfl
  clear h14 z15 e15 d15
  refine ⟨by decide, by decide, 39, 16674, rfl, rfl, fun a16 s16 z16 e16 t16 d16 => ?_⟩
  have h16 := h15.step (k := 21) z16 e16 d16 (by decide) (Or.inl rfl) rfl
  clear h15 z16 e16 d16
  refine ⟨by decide, by decide, 38, 16666, rfl, rfl, fun a17 s17 z17 e17 t17 d17 => ?_⟩
  have h17 := h16.step (k := 23) z17 e17 d17 (by decide) (Or.inl rfl) rfl
  clear h16 z17 e17 d17
  refine ⟨by decide, by decide, 37, 16658, rfl, rfl, fun a18 s18 z18 e18 t18 d18 => ?_⟩
  have h18 := h17.step (k := 24) z18 e18 d18 (by decide) (Or.inl rfl) rfl
  clear h17 z18 e18 d18
  refine ⟨by decide, by decide, 36, 16650, rfl, rfl, fun a19 s19 z19 e19 t19 d19 => ?_⟩
  have h19 := h18.step (k := 25) z19 e19 d19 (by decide) (Or.inr rfl) rfl
  clear h18 z19 e19 d19
  refine ⟨by decide, by decide, 35, 16554, rfl, rfl, fun a20 s20 z20 e20 t20 d20 => ?_⟩
  have h20 := h19.step (k := 26) z20 e20 d20 (by decide) (Or.inl rfl) rfl
  clear h19 z20 e20 d20
  refine ⟨by decide, by decide, 34, 16546, rfl, rfl, fun a21 s21 z21 e21 t21 d21 => ?_⟩
  have h21 := h20.step (k := 28) z21 e21 d21 (by decide) (Or.inl rfl) rfl
  clear h20 z21 e21 d21
  refine ⟨by decide, by decide, 33, 16538, rfl, rfl, fun a22 s22 z22 e22 t22 d22 => ?_⟩
  have h22 := h21.step (k := 29) z22 e22 d22 (by decide) (Or.inr rfl) rfl
  clear h21 z22 e22 d22
  refine ⟨by decide, by decide, 32, 16530, rfl, rfl, fun a23 s23 z23 e23 t23 d23 => ?_⟩
  have h23 := h22.step (k := 30) z23 e23 d23 (by decide) (Or.inl rfl) rfl
  clear h22 z23 e23 d23
  refine ⟨by decide, by decide, 31, 16522, rfl, rfl, fun a24 s24 z24 e24 t24 d24 => ?_⟩
  have h24 := h23.step (k := 31) z24 e24 d24 (by decide) (Or.inl rfl) rfl
  clear h23 z24 e24 d24
  refine ⟨by decide, by decide, 30, 16514, rfl, rfl, fun a25 s25 z25 e25 t25 d25 => ?_⟩
  have h25 := h24.step (k := 32) z25 e25 d25 (by decide) (Or.inr rfl) rfl
  clear h24 z25 e25 d25
  refine ⟨by decide, by decide, 29, 16418, rfl, rfl, fun a26 s26 z26 e26 t26 d26 => ?_⟩
  have h26 := h25.step (k := 33) z26 e26 d26 (by decide) (Or.inl rfl) rfl
  clear h25 z26 e26 d26
  refine ⟨by decide, by decide, 28, 14018, rfl, rfl, fun a27 s27 z27 e27 t27 d27 => ?_⟩
  have h27 := h26.step (k := 34) z27 e27 d27 (by decide) (Or.inl rfl) rfl
  clear h26 z27 e27 d27
  refine ⟨by decide, by decide, 27, 14010, rfl, rfl, fun a28 s28 z28 e28 t28 d28 => ?_⟩
  have h28 := h27.step (k := 35) z28 e28 d28 (by decide) (Or.inl rfl) rfl
  clear h27 z28 e28 d28
  refine ⟨by decide, by decide, 26, 13986, rfl, rfl, fun a29 s29 z29 e29 t29 d29 => ?_⟩
  have h29 := h28.step (k := 36) z29 e29 d29 (by decide) (Or.inl rfl) rfl
  clear h28 z29 e29 d29
  refine ⟨by decide, by decide, 25, 13962, rfl, rfl, fun a30 s30 z30 e30 t30 d30 => ?_⟩
  have h30 := h29.step (k := 37) z30 e30 d30 (by decide) (Or.inl rfl) rfl
  clear h29 z30 e30 d30
  refine ⟨by decide, by decide, 24, 13938, rfl, rfl, fun a31 s31 z31 e31 t31 d31 => ?_⟩
  have h31 := h30.step (k := 38) z31 e31 d31 (by decide) (Or.inl rfl) rfl
  clear h30 z31 e31 d31
  refine ⟨by decide, by decide, 23, 11538, rfl, rfl, fun a32 s32 z32 e32 t32 d32 => ?_⟩
  have h32 := h31.step (k := 40) z32 e32 d32 (by decide) (Or.inl rfl) rfl
  clear h31 z32 e32 d32
  refine ⟨by decide, by decide, 22, 9138, rfl, rfl, fun a33 s33 z33 e33 t33 d33 => ?_⟩
  have h33 := h32.step (k := 41) z33 e33 d33 (by decide) (Or.inl rfl) rfl
  clear h32 z33 e33 d33
  refine ⟨by decide, by decide, 21, 6738, rfl, rfl, fun a34 s34 z34 e34 t34 d34 => ?_⟩
  have h34 := h33.step (k := 42) z34 e34 d34 (by decide) (Or.inl rfl) rfl
  clear h33 z34 e34 d34
  refine ⟨by decide, by decide, 20, 4338, rfl, rfl, fun a35 s35 z35 e35 t35 d35 => ?_⟩
  have h35 := h34.step (k := 43) z35 e35 d35 (by decide) (Or.inl rfl) rfl
  clear h34 z35 e35 d35
  refine ⟨by decide, by decide, 19, 1938, rfl, rfl, fun a36 s36 z36 e36 t36 d36 => ?_⟩
  have h36 := h35.step (k := 44) z36 e36 d36 (by decide) (Or.inl rfl) rfl
  clear h35 z36 e36 d36
  refine ⟨by decide, by decide, 18, 1878, rfl, rfl, fun a37 s37 z37 e37 t37 d37 => ?_⟩
  have h37 := h36.step (k := 46) z37 e37 d37 (by decide) (Or.inl rfl) rfl
  clear h36 z37 e37 d37
  refine ⟨by decide, by decide, 17, 1818, rfl, rfl, fun a38 s38 z38 e38 t38 d38 => ?_⟩
  have h38 := h37.step (k := 47) z38 e38 d38 (by decide) (Or.inl rfl) rfl
  clear h37 z38 e38 d38
  refine ⟨by decide, by decide, 16, 1758, rfl, rfl, fun a39 s39 z39 e39 t39 d39 => ?_⟩
  have h39 := h38.step (k := 48) z39 e39 d39 (by decide) (Or.inl rfl) rfl
  clear h38 z39 e39 d39
  refine ⟨by decide, by decide, 15, 1698, rfl, rfl, fun a40 s40 z40 e40 t40 d40 => ?_⟩
  have h40 := h39.step (k := 49) z40 e40 d40 (by decide) (Or.inl rfl) rfl
  clear h39 z40 e40 d40
  refine ⟨by decide, by decide, 14, 1638, rfl, rfl, fun a41 s41 z41 e41 t41 d41 => ?_⟩
  have h41 := h40.step (k := 50) z41 e41 d41 (by decide) (Or.inl rfl) rfl
  clear h40 z41 e41 d41
  refine ⟨by decide, by decide, 13, 1578, rfl, rfl, fun a42 s42 z42 e42 t42 d42 => ?_⟩
  have h42 := h41.step (k := 51) z42 e42 d42 (by decide) (Or.inl rfl) rfl
  clear h41 z42 e42 d42
  refine ⟨by decide, by decide, 12, 1518, rfl, rfl, fun a43 s43 z43 e43 t43 d43 => ?_⟩
  have h43 := h42.step (k := 52) z43 e43 d43 (by decide) (Or.inl rfl) rfl
  clear h42 z43 e43 d43
  refine ⟨by decide, by decide, 11, 1458, rfl, rfl, fun a44 s44 z44 e44 t44 d44 => ?_⟩
  have h44 := h43.step (k := 53) z44 e44 d44 (by decide) (Or.inl rfl) rfl
  clear h43 z44 e44 d44
  refine ⟨by decide, by decide, 10, 1398, rfl, rfl, fun a45 s45 z45 e45 t45 d45 => ?_⟩
  have h45 := h44.step (k := 54) z45 e45 d45 (by decide) (Or.inr rfl) rfl
  clear h44 z45 e45 d45
  refine ⟨by decide, by decide, 9, 1395, rfl, rfl, fun a46 s46 z46 e46 t46 d46 => ?_⟩
  have h46 := h45.step (k := 55) z46 e46 d46 (by decide) (Or.inl rfl) rfl
  clear h45 z46 e46 d46
  refine ⟨by decide, by decide, 8, 1392, rfl, rfl, fun a47 s47 z47 e47 t47 d47 => ?_⟩
  have h47 := h46.step (k := 56) z47 e47 d47 (by decide) (Or.inl rfl) rfl
  clear h46 z47 e47 d47
  refine ⟨by decide, by decide, 7, 1389, rfl, rfl, fun a48 s48 z48 e48 t48 d48 => ?_⟩
  have h48 := h47.step (k := 57) z48 e48 d48 (by decide) (Or.inl rfl) rfl
  clear h47 z48 e48 d48
  refine ⟨by decide, by decide, 6, 1209, rfl, rfl, fun a49 s49 z49 e49 t49 d49 => ?_⟩
  have h49 := h48.step (k := 58) z49 e49 d49 (by decide) (Or.inl rfl) rfl
  clear h48 z49 e49 d49
  refine ⟨by decide, by decide, 5, 1206, rfl, rfl, fun a50 s50 z50 e50 t50 d50 => ?_⟩
  have h50 := h49.step (k := 59) z50 e50 d50 (by decide) (Or.inl rfl) rfl
  clear h49 z50 e50 d50
  refine ⟨by decide, by decide, 4, 1200, rfl, rfl, fun a51 s51 z51 e51 t51 d51 => ?_⟩
  have h51 := h50.step (k := 60) z51 e51 d51 (by decide) (Or.inl rfl) rfl
  clear h50 z51 e51 d51
  refine ⟨by decide, by decide, 3, 900, rfl, rfl, fun a52 s52 z52 e52 t52 d52 => ?_⟩
  have h52 := h51.step (k := 61) z52 e52 d52 (by decide) (Or.inl rfl) rfl
  clear h51 z52 e52 d52
  refine ⟨by decide, by decide, 2, 600, rfl, rfl, fun a53 s53 z53 e53 t53 d53 => ?_⟩
  have h53 := h52.step (k := 62) z53 e53 d53 (by decide) (Or.inl rfl) rfl
  clear h52 z53 e53 d53
  refine ⟨by decide, by decide, 1, 300, rfl, rfl, fun a54 s54 z54 e54 t54 d54 => ?_⟩
  have h54 := h53.step (k := 63) z54 e54 d54 (by decide) (Or.inl rfl) rfl
  clear h53 z54 e54 d54
  refine ⟨by decide, by decide, 0, 0, rfl, rfl, fun a55 s55 z55 e55 t55 d55 => ?_⟩
  have h55 := h54.step (k := 64) z55 e55 d55 (by decide) (Or.inl rfl) rfl
  clear h54 z55 e55 d55
  have hf := h55.fin
  have en : (fun _ => 0 : Nat → Nat) = nF 0 0 0 0 := funext fun f => by unfold nF; split <;> rfl
  rw [en] at hf
  exact ⟨18 + 1, r_464 (fun s1 g1 => ⟨6 + 1, r_493 (fun s2 g2 => ⟨216 + 1, r_528 (fun s3 g3 => ⟨3 + 1, r_550 (fun s4 g4 => hQ _ s4 g4) 3 0 rfl s3 g3⟩) 216 0 rfl s2 g2⟩) 6 0 rfl s1 g1⟩) 18 0 rfl _ hf⟩
