/-! what is held becomes less -/
section
variable {S T : Ss} {w v : MS}
theorem nul_of (ho : g_ho S w) (ta : g_ta S w) : ((hL S).filter (fun x => !hasO S x)).map (fun x => (zO S 205 x).getD 0) = (List.range (zN S 10)).filter (fun t => decide ((zA S 1005 t = 0 ∨ zA S 1005 t = 1) ∧ ¬ zA S 1001 t = 2)) := by
  obtain ⟨a1, a2, a3⟩ := ho
  obtain ⟨b1, b2, b3, b4⟩ := ta
  refine srt_ext _ _ ?_ ?_ fun t => ?_
  · rw [List.pairwise_map]; exact a3
  · exact List.Pairwise.filter _ List.pairwise_lt_range
  · rw [List.mem_map, List.mem_filter, List.mem_range, decide_eq_true_iff]
    constructor
    · rintro ⟨x, hx, rfl⟩
      rw [List.mem_filter] at hx
      obtain ⟨c1, c2, c3, c4, c5, c6⟩ := a2 x hx.1
      have hno : zO S 200 x = none := by
        have := hx.2
        unfold hasO at this
        cases q : zO S 200 x with
        | none => rfl
        | some o => rw [q] at this; cases this
      rcases c5 with ⟨-, -, t, c5⟩ | ⟨o, j, p, c5, -⟩
      · obtain ⟨d1, d2, d3, d4⟩ := c6 t c5
        rw [c5]
        refine ⟨d1, d3, fun q => ?_⟩
        obtain ⟨-, -, -, -, -, -, -, x', l, e1, e2, e3, e4, e5, e6, e7, e8⟩ := b4 t d1
        have : x' = x := Option.some.inj (e1.symm.trans d2)
        subst this
        rcases e8 with e8 | e8 | ⟨-, -, -, o, j, e8, -⟩
        · exact absurd (e8.1.symm.trans q) (by decide)
        · exact absurd (e8.1.symm.trans q) (by decide)
        · rw [hno] at e8; cases e8
      · rw [hno] at c5; cases c5
    · rintro ⟨d1, d2, d3⟩
      obtain ⟨-, -, -, -, -, -, -, x, l, e1, e2, e3, e4, e5, e6, e7, e8⟩ := b4 t d1
      obtain ⟨f1, f2, -⟩ := e7 d2
      refine ⟨x, List.mem_filter.mpr ⟨f1, ?_⟩, by rw [f2]; rfl⟩
      have hno : zO S 200 x = none := by
        rcases e8 with e8 | e8 | e8
        · exact e8.2.1
        · exact e8.2.1
        · exact absurd e8.1 d3
      unfold hasO; rw [hno]; rfl
theorem hasO_f {x : Nat} (h : (!hasO S x) = true) : zO S 200 x = none := by
  unfold hasO at h
  cases q : zO S 200 x with
  | none => rfl
  | some o => rw [q] at h; cases h
theorem hasO_t {x : Nat} (h : hasO S x = true) : ∃ o, zO S 200 x = some o := by
  unfold hasO at h
  cases q : zO S 200 x with
  | none => rw [q] at h; cases h
  | some o => exact ⟨o, rfl⟩
/-- the awaited room, by holdings and by tasks -/
theorem ap_of (ho : g_ho S w) (ta : g_ta S w) (s i : Nat) : sm (hL S) (apH S s i) = sm (List.range (zN S 10)) (apc S s i) := by
  have kind : ∀ x t, x ∈ hL S → zO S 205 x = some t → (zA S 1001 t = 2 ↔ hasO S x = true) ∧ apH S s i x = apc S s i t := fun x t hx ht => by
    obtain ⟨c1, c2, c3, c4, c5, c6⟩ := ho.2.1 x hx
    obtain ⟨d1, d2, d3, d4⟩ := c6 t ht
    obtain ⟨-, -, -, -, -, -, -, x', l, e1, e2, e3, e4, e5, e6, e7, e8⟩ := ta.2.2.2 t d1
    have : x' = x := Option.some.inj (e1.symm.trans d2)
    subst this
    have hl : lotT S t = l := by unfold lotT; rw [e1]; show (zO S 203 x').getD 0 = l; rw [e3]; rfl
    refine ⟨?_, ?_⟩
    · unfold hasO
      rcases e8 with e8 | e8 | ⟨f1, f2, f3, o, j, f4, -⟩
      · rw [e8.1, e8.2.1]; exact ⟨fun r => absurd r (by decide), fun r => by cases r⟩
      · rw [e8.1, e8.2.1]; exact ⟨fun r => absurd r (by decide), fun r => by cases r⟩
      · rw [f1, f4]; exact ⟨fun _ => rfl, fun _ => rfl⟩
    · have eg : (some l).getD 0 = l := rfl
      unfold apc
      rw [apH_s ht, hl, e3, eg]
      by_cases q : ¬ zA S 1001 t = 2 ∧ zA S 1003 t = nI s ∧ itS S l = i
      · rw [if_pos q, if_pos ⟨d3, q⟩, d4]
      · rw [if_neg q, if_neg (fun r => q r.2)]
  rw [sm_split (hasO S) (xs := hL S), sm_0 ((hL S).filter (hasO S)) fun x hx => ?_, Int32.zero_add]
  · have e1 : sm ((hL S).filter fun a => !hasO S a) (apH S s i) = sm (((hL S).filter (fun x => !hasO S x)).map (fun x => (zO S 205 x).getD 0)) (apc S s i) := by
      rw [sm_map]
      refine sm_cg _ fun x hx => ?_
      rw [List.mem_filter] at hx
      have hno := hasO_f hx.2
      obtain ⟨c1, c2, c3, c4, c5, c6⟩ := ho.2.1 x hx.1
      rcases c5 with ⟨-, -, t, c5⟩ | ⟨o, j, p, c5, -⟩
      · rw [(kind x t hx.1 c5).2, c5]; rfl
      · rw [hno] at c5; cases c5
    rw [e1, nul_of ho ta, sm_fil]
    refine sm_cg _ fun t ht => ?_
    by_cases q : (zA S 1005 t = 0 ∨ zA S 1005 t = 1) ∧ ¬ zA S 1001 t = 2
    · rw [if_pos (decide_eq_true q)]
    · rw [if_neg (by rw [decide_eq_true_iff]; exact q)]
      unfold apc
      rw [if_neg (fun r => q ⟨r.1, r.2.1⟩)]
  · rw [List.mem_filter] at hx
    cases q : zO S 205 x with
    | none => unfold apH; rw [q]
    | some t =>
      have := (kind x t hx.1 q).1.mpr hx.2
      unfold apH; rw [q]
      dsimp only
      rw [if_neg (fun r => r.1 this)]
theorem Rel.hlen {B k : Nat} (h : Rel B k S w) : (hL S).length ≤ 2436 := by
  have e1 : (hL S).length = ((hL S).filter (hasO S)).length + ((hL S).filter fun a => !hasO S a).length := len_spl (hasO S) (hL S)
  have e2 : ((hL S).filter fun a => !hasO S a).length = ((List.range (zN S 10)).filter (fun t => decide ((zA S 1005 t = 0 ∨ zA S 1005 t = 1) ∧ ¬ zA S 1001 t = 2))).length := by rw [← h.nul, List.length_map]
  have e3 := List.length_filter_le (fun t => decide ((zA S 1005 t = 0 ∨ zA S 1005 t = 1) ∧ ¬ zA S 1001 t = 2)) (List.range (zN S 10))
  rw [List.length_range] at e3
  have := h.ta.1
  have := h.hcount
  omega
theorem Rel.lnM {B k : Nat} (h : Rel B k S w) {o j : Nat} (ho : o < zN S 7) (hj : j ∈ zL S 704 o) : j < zN S 4 := by
  obtain ⟨p, hp, hpj⟩ := List.mem_iff_getElem.mp hj
  exact ((h.li.1 o ho).2.2 p j (List.getElem?_eq_some_iff.mpr ⟨hp, hpj⟩)).1
theorem Rel.hwf {B k : Nat} (h : Rel B k S w) {x : Nat} (hx : x ∈ hL S) : hwf S x := by
  obtain ⟨c1, c2, ⟨l, c3, c3'⟩, ⟨p, c4, c4'⟩, c5, c6⟩ := h.ho.2.1 x hx
  obtain ⟨b1, -, -, -, b5, b6, b7⟩ := h.lo.2.2.2.1 l c3
  have hc7 : ∀ t, zO S 205 x = some t → t < zN S 10 ∧ zO S 1002 t = some x ∧ (zA S 1001 t = 2 ∨ ∃ s, s < 18 ∧ zA S 1003 t = nI s) := fun t ht => by
    obtain ⟨d1, d2, d3, d4⟩ := c6 t ht
    obtain ⟨-, -, -, -, -, -, -, x', l, e1, e2, e3, e4, e5, e6, e7, e8⟩ := h.ta.2.2.2 t d1
    refine ⟨d1, d2, ?_⟩
    rcases e8 with e8 | e8 | e8
    · exact Or.inr e8.2.2.2.2.2
    · exact Or.inr e8.2.2.2.2.2
    · exact Or.inl e8.1
  refine ⟨l, p, c3, c3', b1, b5, b6, c4, c4', ?_, hc7⟩
  rcases c5 with c5 | ⟨o, j, p', c5, d1, d2, d3, d4, d5, d6⟩
  · exact Or.inl c5
  · have e : p = p' := (nI_eq (by omega) (by omega)).mp (c4'.symm.trans d6)
    exact Or.inr ⟨o, j, c5, d1, d2, (h.or.2.2.2.2.1 o d2).1, h.lnM d2 d3, by omega⟩
theorem Rel.co {B k : Nat} (h : Rel B k S w) : CO S := by
  have := h.hlen
  refine ⟨h.hI, h.lo.1, h.ho.1, by omega, fun x hx => ⟨h.hwf hx, ?_⟩, fun p l hp hl => (h.hs.1 p l hp hl).1, fun j hj => (h.hs.2 j hj).1, fun s i hs hi => ?_⟩
  · have := tI_of (h.ho.2.1 x hx).2.1
    exact ⟨by omega, this.2⟩
  · rw [h.ap.1 s i hs hi, ap_of h.ho h.ta]
/-- to which robot a task is given -/
theorem Rel.rob {B k : Nat} (h : Rel B k S w) {t : Nat} (ht : t < zN S 10) (hon : onT S t) : ∃ ρ : Option Nat, mA w 53 t = fcI ρ ∧ (∀ r, ρ = some r → r < 3) ∧ ∀ r, r < 3 → t ∈ rowS S r → ρ = some r := by
  obtain ⟨n1, n2, n3, n4⟩ := h.ro
  obtain ⟨b1, b2⟩ := n4 t ht
  rcases hon with q | q
  · refine ⟨none, b1 q, fun r hr => (by cases hr), fun r hr hm => ?_⟩
    have := of_decide_eq_true (List.mem_filter.mp hm).2
    rw [q] at this; exact absurd this (by decide)
  · obtain ⟨r, hr, hm⟩ := b2 q
    have hrow : t ∈ rowS S r := List.mem_filter.mpr ⟨hm, decide_eq_true q⟩
    refine ⟨some r, (n1 r hr).2.2.2.2.2.2 t hrow, fun r' e => by cases e; exact hr, fun r' hr' hm' => ?_⟩
    rw [n3 r r' t hr hr' hm (List.mem_filter.mp hm').1]
theorem Rel.rb {B k : Nat} (h : Rel B k S w) : RB w (rowS S) := fun r hr => by
  obtain ⟨a1, a2, a3, a4, a5, a6, a7⟩ := h.ro.1 r hr
  have := h.rlen2 hr
  have := h.ta.1
  refine ⟨a3, by omega, fun t ht => ?_, a4⟩
  have := (a6 t (List.mem_filter.mp ht).1).1
  omega
theorem Rel.rw {B k : Nat} (h : Rel B k S w) : RW S w ((hL S).filter (hasO S)) (zA S 204) := by
  have := h.hcount
  have h60 := h.ta.1
  refine ⟨h.hm.1, by omega, h.ho.1.sublist List.filter_sublist, fun k x hx => ?_⟩
  obtain ⟨o, j, l, d⟩ := h.hm.2 k x hx
  refine ⟨fun t ht => ?_, o, j, l, d⟩
  have := ((h.ho.2.1 x (List.mem_filter.mp (List.mem_of_getElem? hx)).1).2.2.2.2.2 t ht).1
  omega
/-- the fields that what is held reads -/
def HF (S T : Ss) : Prop := (∀ f, f = 202 ∨ f = 1000 ∨ f = 1001 ∨ f = 1003 ∨ f = 1006 ∨ f = 705 ∨ f = 801 ∨ f = 802 → zA T f = zA S f) ∧ (∀ f, f = 200 ∨ f = 201 ∨ f = 203 ∨ f = 205 ∨ f = 501 ∨ f = 902 ∨ f = 1002 → zO T f = zO S f) ∧ (∀ f, f = 704 ∨ f = 800 ∨ f = 1108 → zL T f = zL S f) ∧ ∀ f, f = 2 ∨ f = 4 ∨ f = 5 ∨ f = 7 ∨ f = 10 → zN T f = zN S f
def HV (w v : MS) : Prop := mI v 45 = mI w 45 ∧ ∀ k, k = 46 ∨ k = 47 ∨ k = 48 ∨ k = 49 ∨ k = 50 ∨ k = 53 ∨ k = 54 ∨ k = 55 ∨ k = 56 → mA v k = mA w k
theorem Rel.red {B k : Nat} (h : Rel B k S w) {p st q : Nat → Int32} (hF : HF S T) (t1 : hL T = (hL S).filter fun x => decide (¬ p x = 0)) (t2 : ∀ x, x ∈ hL S → ¬ p x = 0 → zA T 204 x = p x) (t3 : ∀ t, t < zN S 10 → zA T 1004 t = q t ∧ zA T 1005 t = st t) (t4 : CH T) (hV : HV w v) (v1 : RW S v (((hL S).filter (hasO S)).filter fun x => decide (¬ p x = 0)) p) (v2 : ∀ t, t < zN S 10 → mA v 51 t = q t ∧ mA v 52 t = st t) (v3 : RB v (rowS T)) (c1 : ∀ x, x ∈ hL S → tI (p x) 0 99) (c2 : ∀ x, x ∈ hL S → ¬ p x = 0 → ∀ t, zO S 205 x = some t → st t = zA S 1005 t ∧ q t = p x) (c3 : ∀ x, x ∈ hL S → p x = 0 → ∀ t, zO S 205 x = some t → ¬ (st t = 0 ∨ st t = 1)) (c4 : ∀ t, t < zN S 10 → (st t = 0 → zA S 1005 t = 0) ∧ (st t = 1 → zA S 1005 t = 1)) (c5 : ∀ t, t < zN S 10 → tI (st t) 0 3 ∧ tI (q t) 0 99) (hbk : ∀ p l, p < 19 → l < 12 → sz (hL T) (fun x => (hpc T p l x).toInt) ≤ (zC T 0 (12 * p + l)).toInt) : g_ho T v ∧ g_hs T v ∧ g_hm T v ∧ g_ta T v ∧ g_ap T v ∧ g_ro T v := by
  obtain ⟨fA, fO, fL, fN⟩ := hF
  obtain ⟨vI, vA⟩ := hV
  have hmem : ∀ x, x ∈ hL T ↔ x ∈ hL S ∧ ¬ p x = 0 := fun x => by rw [t1, List.mem_filter, decide_eq_true_iff]
  have h2 : ∀ x, x ∈ hL T → zA T 204 x = p x := fun x hx => t2 x ((hmem x).mp hx).1 ((hmem x).mp hx).2
  have on : ∀ t, t < zN S 10 → (zA T 1005 t = 0 ∨ zA T 1005 t = 1) → (zA S 1005 t = 0 ∨ zA S 1005 t = 1) := fun t ht r => by
    rw [(t3 t ht).2] at r
    rcases r with r | r
    · exact Or.inl ((c4 t ht).1 r)
    · exact Or.inr ((c4 t ht).2 r)
  have hO : hasO T = hasO S := by funext x; unfold hasO; rw [fO 200 (by decide)]
  have ho : g_ho T v := by
    obtain ⟨a1, a2, a3⟩ := h.ho
    unfold g_ho
    rw [hO]
    refine ⟨a1.sublist (by rw [t1]; exact List.filter_sublist), fun x hx => ?_, ?_⟩
    · obtain ⟨hx1, hx2⟩ := (hmem x).mp hx
      obtain ⟨b1, b2, b3, b4, b5, b6⟩ := a2 x hx1
      rw [h2 x hx, fN 2 (by decide), fN 5 (by decide), fO 203 (by decide), fA 202 (by decide), fO 200 (by decide), fO 201 (by decide), fO 205 (by decide), fN 7 (by decide), fL 704 (by decide), fA 705 (by decide), fN 10 (by decide), fO 1002 (by decide)]
      refine ⟨b1, ?_, b3, b4, b5, fun t ht => ?_⟩
      · have t := tI_of (c1 x hx1)
        have e0 : (0 : Int32).toInt = 0 := rfl
        refine ⟨?_, t.2⟩
        have : (p x).toInt ≠ 0 := fun r => hx2 (Int32.toInt_inj.mp (by rw [r, e0]))
        omega
      · obtain ⟨d1, d2, d3, d4⟩ := b6 t ht
        obtain ⟨e1, e2⟩ := c2 x hx1 hx2 t ht
        rw [(t3 t d1).1, (t3 t d1).2, e1, e2]
        exact ⟨d1, d2, d3, rfl⟩
    · rw [fO 205 (by decide), t1]
      exact a3.sublist (List.Sublist.filter _ List.filter_sublist)
  have ta : g_ta T v := by
    obtain ⟨a1, a2, a3, a4⟩ := h.ta
    unfold g_ta onT lqS
    rw [fN 10 (by decide), fL 1108 (by decide), vI, fA 1000 (by decide), fA 1001 (by decide), fA 1003 (by decide), fA 1006 (by decide), fO 1002 (by decide), fN 2 (by decide), fO 203 (by decide), fN 5 (by decide), fO 205 (by decide), fO 200 (by decide), fO 201 (by decide), fA 202 (by decide), fN 7 (by decide), fL 704 (by decide), vA 46 (by decide), vA 47 (by decide), vA 48 (by decide), vA 49 (by decide), vA 50 (by decide), vA 54 (by decide)]
    refine ⟨a1, a2, a3, fun t ht => ?_⟩
    obtain ⟨b1, b2, b3, b4, b5, b6, b7, x, l, e1, e2, e3, e4, e5, e6, e7, e8⟩ := a4 t ht
    obtain ⟨r1, r2⟩ := t3 t ht
    obtain ⟨s1, s2⟩ := v2 t ht
    refine ⟨b1, b2, b3, s1.trans r1.symm, s2.trans r2.symm, by rw [r1]; exact (c5 t ht).2, by rw [r2]; exact (c5 t ht).1, x, l, e1, e2, e3, e4, e5, e6, fun hon => ?_, ?_⟩
    · obtain ⟨g1, g2, g3, g4⟩ := e7 (on t ht hon)
      refine ⟨(hmem x).mpr ⟨g1, fun r => ?_⟩, g2, g3, g4⟩
      rw [r2] at hon
      exact c3 x g1 r t g2 hon
    · rcases e8 with e8 | e8 | ⟨g1, g2, g3, g4⟩
      · exact Or.inl e8
      · exact Or.inr (Or.inl e8)
      · exact Or.inr (Or.inr ⟨g1, g2, fun hon => g3 (on t ht hon), g4⟩)
  have len : (hL T).length ≤ 2436 := by
    have := h.hlen
    rw [t1]; exact Nat.le_trans (List.length_filter_le ..) this
  refine ⟨ho, ?_, ?_, ta, ?_, ?_⟩
  · refine ⟨fun p l hp hl => ⟨t4.1 p l hp hl, hbk p l hp hl⟩, fun j hj => ⟨t4.2.1 j hj, ?_⟩⟩
    rw [t4.2.1 j hj]
    have nn : ∀ x, x ∈ hL T → 0 ≤ (lnH T j x).toInt ∧ (lnH T j x).toInt ≤ 99 := fun x hx => by
      unfold lnH; split
      · rw [h2 x hx]; exact c1 x ((hmem x).mp hx).1
      · exact ⟨by decide, by decide⟩
    rw [sm_toInt _ (fun x hx => (nn x hx).1) (by
      have := sz_ub (z := fun x => (lnH T j x).toInt) (c := 99) (hL T) fun x hx => (nn x hx).2
      omega)]
    refine sz_cg _ fun x hx => ?_
    unfold lnH; split <;> rfl
  · have e : (hL T).filter (hasO T) = ((hL S).filter (hasO S)).filter fun x => decide (¬ p x = 0) := by
      rw [hO, t1, List.filter_filter, List.filter_filter]
      refine List.filter_congr fun x _ => Bool.and_comm ..
    unfold g_hm
    rw [e]
    refine ⟨v1.1, fun k x hx => ?_⟩
    obtain ⟨-, o, j, l, d1, d2, d3, d4, d5, d6, d7, d8⟩ := v1.2.2.2 k x hx
    have hxT : x ∈ hL T := by
      have := List.mem_of_getElem? hx
      rw [← e] at this; exact (List.mem_filter.mp this).1
    refine ⟨o, j, l, ?_⟩
    unfold lqS
    rw [fO 200 (by decide), fO 201 (by decide), fO 203 (by decide), fA 202 (by decide), fO 205 (by decide), h2 x hxT, fL 704 (by decide)]
    exact ⟨d1, d2, d3, d4, d5, d6, d7, d8⟩
  · refine ⟨fun s i hs hi => by rw [t4.2.2 s i hs hi, ap_of ho ta], fun t s i ht hs hon e1 e2 => ?_⟩
    rw [fN 10 (by decide)] at ht
    rw [fA 1003 (by decide)] at e1
    rw [fA 1001 (by decide)] at e2
    have eL : lotT T t = lotT S t := by unfold lotT; rw [fO 203 (by decide), fO 1002 (by decide)]
    rw [fO 902 (by decide), fA 1001 (by decide), eL, itS_O (fO 501 (by decide))]
    exact h.ap.2 t s i ht hs (on t ht hon) e1 e2
  · obtain ⟨n1, n2, n3, n4⟩ := h.ro
    unfold g_ro
    rw [fA 801 (by decide), fA 802 (by decide), fL 800 (by decide), fN 10 (by decide), vA 53 (by decide), vA 55 (by decide), vA 56 (by decide)]
    refine ⟨fun r hr => ?_, n2, n3, fun t ht => ?_⟩
    · obtain ⟨a1, a2, a3, a4, a5, a6, a7⟩ := n1 r hr
      obtain ⟨b1, b2, b3, b4⟩ := v3 r hr
      refine ⟨a1, a2, b1, b4, a5, fun t ht => ⟨(a6 t ht).1, fun e => ?_⟩, fun t ht => ?_⟩
      · rw [(t3 t (a6 t ht).1).2] at e
        exact (a6 t ht).2 ((c4 t (a6 t ht).1).1 e)
      · obtain ⟨m1, m2⟩ := List.mem_filter.mp ht
        rw [fL 800 (by decide)] at m1
        have m3 := of_decide_eq_true m2
        have htN := (a6 t m1).1
        rw [(t3 t htN).2] at m3
        exact a7 t (List.mem_filter.mpr ⟨m1, decide_eq_true ((c4 t htN).2 m3)⟩)
    · obtain ⟨b1, b2⟩ := n4 t ht
      rw [(t3 t ht).2]
      exact ⟨fun e => b1 ((c4 t ht).1 e), fun e => b2 ((c4 t ht).2 e)⟩
/-- what lines hold is less -/
theorem Rel.li_red {B k : Nat} (h : Rel B k S w) {p : Nat → Int32} (t1 : hL T = (hL S).filter fun x => decide (¬ p x = 0)) (t2 : ∀ x, x ∈ hL S → ¬ p x = 0 → zA T 204 x = p x) (hO : zO T 201 = zO S 201) (t4 : ∀ j, j < zN S 4 → zA T 402 j = sm (hL T) (lnH T j)) (c1 : ∀ x, x ∈ hL S → tI (p x) 0 99 ∧ (p x).toInt ≤ (zA S 204 x).toInt) (j : Nat) (hj : j < zN S 4) : 0 ≤ (zA T 402 j).toInt ∧ (zA T 402 j).toInt = sz (hL S) (fun x => if zO S 201 x = some j then (p x).toInt else 0) ∧ (zA T 402 j).toInt ≤ (zA S 402 j).toInt := by
  have hlen := h.hlen
  have hmem : ∀ x, x ∈ hL T ↔ x ∈ hL S ∧ ¬ p x = 0 := fun x => by rw [t1, List.mem_filter, decide_eq_true_iff]
  have nn : ∀ x, x ∈ hL T → 0 ≤ (lnH T j x).toInt ∧ (lnH T j x).toInt ≤ 99 := fun x hx => by
    unfold lnH; split
    · rw [t2 x ((hmem x).mp hx).1 ((hmem x).mp hx).2]; exact (c1 x ((hmem x).mp hx).1).1
    · exact ⟨by decide, by decide⟩
  have e : (zA T 402 j).toInt = sz (hL T) (fun x => (lnH T j x).toInt) := by
    rw [t4 j hj, sm_toInt _ (fun x hx => (nn x hx).1) (by
      have := sz_ub (z := fun x => (lnH T j x).toInt) (c := 99) (hL T) fun x hx => (nn x hx).2
      have : (hL T).length ≤ 2436 := by rw [t1]; exact Nat.le_trans (List.length_filter_le ..) hlen
      omega)]
  have e2 : sz (hL T) (fun x => (lnH T j x).toInt) = sz (hL S) (fun x => if zO S 201 x = some j then (p x).toInt else 0) := by
    rw [t1, sz_fil]
    refine sz_cg _ fun x hx => ?_
    by_cases q : p x = 0
    · rw [if_neg (by simp [q]), q]
      have e0 : (0 : Int32).toInt = 0 := rfl
      rw [e0]; split <;> rfl
    · rw [if_pos (by simp [q])]
      unfold lnH
      rw [hO, t2 x hx q]
      split <;> rfl
  refine ⟨by rw [e]; exact sz_0 _ fun x hx => (nn x hx).1, e.trans e2, ?_⟩
  rw [e, e2, ← (h.hs.2 j hj).2]
  refine sz_le _ fun x hx => ?_
  split
  · exact (c1 x hx).2
  · exact Int.le_refl _
end
