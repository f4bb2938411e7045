/-! the reference: the REFILLs are cut -/
section
variable {B k : Nat} {S : Ss} {w v u w0 : MS}
def hol (S : Ss) (t : Nat) : Nat := (zO S 1002 t).getD 0
def rfc (S : Ss) (s l : Nat) (f0 : Option Nat) (t : Nat) : Bool := decide ((zA S 1005 t = 0 ∨ zA S 1005 t = 1) ∧ zA S 1001 t = 1 ∧ zA S 202 (hol S t) = nI s ∧ lotT S t = l ∧ ¬ some (hol S t) = f0)
/-- the holdings of the REFILLs, by tasks and by the class's list -/
theorem Rel.rfMap (h : Rel B k S w) {s l : Nat} (hs : s < 18) (f0 : Option Nat) : ((List.range (zN S 10)).filter (rfc S s l f0)).map (hol S) = (hL S).filter (sel S s l f0 8) := by
  have nul := h.nul
  have tk : ∀ x, x ∈ hL S → zO S 200 x = none → ∃ t, zO S 205 x = some t ∧ hol S t = x ∧ t < zN S 10 ∧ (zA S 1005 t = 0 ∨ zA S 1005 t = 1) ∧ (zA S 1001 t = 1 ↔ ¬ zA S 202 x = nI 18) ∧ ∀ l', zO S 203 x = some l' ↔ lotT S t = l' := fun x hx hn => by
    obtain ⟨-, -, -, -, c5, c6⟩ := h.ho.2.1 x hx
    rcases c5 with ⟨-, -, t, c5⟩ | ⟨o, j, p, c5, -⟩
    · obtain ⟨d1, d2, d3, d4⟩ := c6 t c5
      obtain ⟨-, -, -, -, -, -, -, x', l', e1, e2, e3, e4, e5, e6, e7, e8⟩ := h.ta.2.2.2 t d1
      have : x' = x := Option.some.inj (e1.symm.trans d2)
      subst this
      refine ⟨t, c5, by unfold hol; rw [d2]; rfl, d1, d3, ?_, fun l2 => ?_⟩
      · rcases e8 with e8 | e8 | ⟨-, -, -, o, j, e8, -⟩
        · rw [e8.1, e8.2.2.2.1]; exact ⟨fun r => absurd r (by decide), fun r => absurd rfl r⟩
        · obtain ⟨p, p1, p2⟩ := e8.2.2.2.1
          rw [e8.1, p2]
          exact ⟨fun _ r => by have := (nI_eq (by omega) (by decide)).mp r; omega, fun _ => rfl⟩
        · rw [hn] at e8; cases e8
      · have : lotT S t = l' := by unfold lotT; rw [e1]; show (zO S 203 x').getD 0 = l'; rw [e3]; rfl
        rw [this, e3, Option.some.injEq]
    · rw [hn] at c5; cases c5
  have e1 : (List.range (zN S 10)).filter (rfc S s l f0) = ((List.range (zN S 10)).filter (fun t => decide ((zA S 1005 t = 0 ∨ zA S 1005 t = 1) ∧ ¬ zA S 1001 t = 2))).filter (rfc S s l f0) := by
    rw [List.filter_filter]
    refine List.filter_congr fun t _ => ?_
    cases q : rfc S s l f0 t with
    | false => rfl
    | true =>
      obtain ⟨q1, q2, -⟩ := of_decide_eq_true q
      have q3 : ¬ zA S 1001 t = 2 := by rw [q2]; decide
      rw [decide_eq_true ⟨q1, q3⟩]; rfl
  have e2 : (hL S).filter (sel S s l f0 8) = ((hL S).filter (fun x => !hasO S x)).filter (sel S s l f0 8) := by
    rw [List.filter_filter]
    refine List.filter_congr fun x hx => ?_
    cases q : sel S s l f0 8 x with
    | false => rfl
    | true =>
      obtain ⟨-, q2, -⟩ := of_decide_eq_true q
      have : hasO S x = false := by
        unfold hasO
        cases e : zO S 200 x with
        | none => rfl
        | some o =>
          obtain ⟨j, -, c2, -⟩ := h.hpos hx e
          unfold tnN at q2
          rw [e] at q2
          have : o = 8 := q2
          have := h.or.1
          omega
      rw [this]; rfl
  rw [e1, ← nul, List.filter_map, List.map_map, e2]
  have key : ∀ xs : List Nat, (∀ x, x ∈ xs → x ∈ hL S ∧ zO S 200 x = none) → (xs.filter ((rfc S s l f0) ∘ fun x => (zO S 205 x).getD 0)).map ((hol S) ∘ fun x => (zO S 205 x).getD 0) = xs.filter (sel S s l f0 8) := by
    intro xs
    induction xs with
    | nil => intro _; rfl
    | cons x xs ih =>
      intro hx
      have ih := ih fun y hy => hx y (List.mem_cons_of_mem _ hy)
      obtain ⟨x1, x2⟩ := hx x (List.mem_cons_self ..)
      obtain ⟨t, t1, t2, t3, t4, t5, t6⟩ := tk x x1 x2
      have tn : tnN S x = 8 := by unfold tnN; rw [x2]; rfl
      have eq : rfc S s l f0 t = sel S s l f0 8 x := by
        unfold rfc sel
        rw [decide_eq_decide, t2, tn]
        constructor
        · rintro ⟨r1, r2, r3, r4, r5⟩
          exact ⟨r5, rfl, r3, (t6 l).mpr r4⟩
        · rintro ⟨r1, -, r3, r4⟩
          refine ⟨t4, t5.mpr fun r => ?_, r3, (t6 l).mp r4, r1⟩
          rw [r3] at r
          have := (nI_eq (by omega) (by decide)).mp r
          omega
      have e3 : ((rfc S s l f0) ∘ fun x => (zO S 205 x).getD 0) x = sel S s l f0 8 x := by
        show rfc S s l f0 ((zO S 205 x).getD 0) = _
        rw [t1]; exact eq
      cases q : sel S s l f0 8 x with
      | true =>
        rw [List.filter_cons_of_pos (by rw [e3]; exact q), List.filter_cons_of_pos q, List.map_cons, ih]
        congr 1
        show hol S ((zO S 205 x).getD 0) = x
        rw [t1]; exact t2
      | false =>
        rw [List.filter_cons_of_neg (by rw [e3, q]; decide), List.filter_cons_of_neg (by rw [q]; decide), ih]
  exact key _ fun x hx => by
    obtain ⟨x1, x2⟩ := List.mem_filter.mp hx
    exact ⟨x1, hasO_f x2⟩
theorem KI.l206 (h : Rel B k S w0) {f0 : Option Nat} (hb : KB S w0 w f0) {x4 : Int32} (hx4 : X4 S f0 x4) {s l : Nat} (hs : s < 18) (hl : l < zN S 5) {r : Int32} (hI : KI S w v f0 (cutL S s l f0 8) r) : ∃ u, g_X12_shorts_206 FU (nI s) (nI l) x4 (rcut (zA S 204) (cutL S s l f0 8) r) 0 v = some ((), u) ∧ KI S w u f0 (cutL S s l f0 9) r := by
  have h12 := h.lo.1
  have h60 := h.ta.1
  have hf0 : ∀ x, f0 = some x → x ∈ hL S := fun x hx => by
    rcases hx4 with ⟨q, -⟩ | ⟨x0, t0, q, q2, -⟩
    · rw [q] at hx; cases hx
    · rw [q] at hx; rw [← Option.some.inj hx]; exact q2
  obtain ⟨P, hP⟩ : ∃ P : Nat → List Nat, P = fun i => cutL S s l f0 8 ++ ((List.range i).filter (rfc S s l f0)).map (hol S) := ⟨_, rfl⟩
  have P0 : P 0 = cutL S s l f0 8 := by rw [hP]; exact List.append_nil _
  have PN : P (zN S 10) = cutL S s l f0 9 := by rw [hP]; show _ ++ _ = _ ++ _; rw [h.rfMap hs]
  have tk : ∀ t, t < zN S 10 → rfc S s l f0 t = true → hol S t ∈ hL S ∧ zO S 205 (hol S t) = some t ∧ zO S 200 (hol S t) = none := fun t ht q => by
    obtain ⟨q1, q2, -⟩ := of_decide_eq_true q
    obtain ⟨-, -, -, -, -, -, -, x', l', e1, e2, e3, e4, e5, e6, e7, e8⟩ := h.ta.2.2.2 t ht
    have : hol S t = x' := by unfold hol; rw [e1]; rfl
    rw [this]
    obtain ⟨g1, g2, -⟩ := e7 q1
    refine ⟨g1, g2, ?_⟩
    rcases e8 with e8 | e8 | e8
    · exact e8.2.1
    · exact e8.2.1
    · rw [q2] at e8; exact absurd e8.1 (by decide)
  have Pm : ∀ i, i ≤ zN S 10 → ∀ x, x ∈ P i → x ∈ hL S ∧ (f0 = some x ∨ (∃ o, zO S 200 x = some o) ∨ ∃ t, t < i ∧ rfc S s l f0 t = true ∧ hol S t = x) := fun i hi x hx => by
    rw [hP] at hx
    rcases List.mem_append.mp hx with q | q
    · rcases cutL_m 8 x q with e | ⟨e1, e2, e3, -⟩
      · exact ⟨hf0 x e, Or.inl e⟩
      · refine ⟨e1, Or.inr (Or.inl ?_)⟩
        unfold tnN at e3
        cases q : zO S 200 x with
        | none => rw [q] at e3; have : 8 < 8 := e3; omega
        | some o => exact ⟨o, rfl⟩
    · obtain ⟨t, t1, t2⟩ := List.mem_map.mp q
      obtain ⟨t3, t4⟩ := List.mem_filter.mp t1
      have t5 := List.mem_range.mp t3
      rw [← t2]
      exact ⟨(tk t (by omega) t4).1, Or.inr (Or.inr ⟨t, t5, t4, rfl⟩)⟩
  obtain ⟨u, a, ⟨i1, i2⟩, e⟩ := g_loop (α := Int32) (fun f a j => g_X12_shorts_206 f (nI s) (nI l) x4 a j) (zN S 10) (fun i v a => a = rcut (zA S 204) (P i) r ∧ KI S w v f0 (P i) r) (fun _ v => some ((), v)) (fun f t v a ht hI => by
    obtain ⟨i1, i2⟩ := hI
    have i2' := i2
    obtain ⟨k1, k2, k3, k4, k5, k6⟩ := i2
    have c45 : mI v 45 = nI (zN S 10) := by rw [k5, hb.2.2 45 (by decide)]; exact h.ta.2.2.1
    have Pn : P (t + 1) = P t ++ if rfc S s l f0 t = true then [hol S t] else [] := by
      rw [hP]
      show _ ++ _ = (_ ++ _) ++ _
      rw [List.range_succ, List.filter_append, List.map_append, List.append_assoc]
      congr 2
      cases q : rfc S s l f0 t with
      | true => rw [List.filter_cons_of_pos q]; rfl
      | false => rw [List.filter_cons_of_neg (by rw [q]; decide)]; rfl
    obtain ⟨-, a2, -, -, a5, -, -, x', l', e1, e2, e3, e4, e5, e6, e7, e8⟩ := h.ta.2.2.2 t ht
    have hx' : hol S t = x' := by unfold hol; rw [e1]; rfl
    have hlt : lotT S t = l' := by unfold lotT; rw [e1]; show (zO S 203 x').getD 0 = l'; rw [e3]; rfl
    have c46 : mA v 46 t = zA S 1001 t := by rw [k6 46 (by decide), hb.2.1 46 (by decide), a2]
    have c47 : mA v 47 t = nI l' := by rw [k6 47 (by decide), hb.2.1 47 (by decide), e5]
    have c48 : mA v 48 t = zA S 202 x' := by rw [k6 48 (by decide), hb.2.1 48 (by decide), e6]
    have b46 : t < mL 46 := show t < 60 by omega
    have b47 : t < mL 47 := show t < 60 by omega
    have b48 : t < mL 48 := show t < 60 by omega
    have ct := nI_clamp (show t < 2 ^ 31 by omega)
    have hge := nI_ge ht (show zN S 10 < 2 ^ 31 by omega)
    -- a REFILL that comes now has its state still
    have frs : zA S 1001 t = 1 → ¬ ∃ x, x ∈ P t ∧ ¬ some x = f0 ∧ zO S 205 x = some t := fun q ⟨x, x1, x2, x3⟩ => by
      obtain ⟨y1, y2⟩ := Pm t (by omega) x x1
      obtain ⟨d1, d2, -⟩ := (h.ho.2.1 x y1).2.2.2.2.2 t x3
      have ex : x' = x := Option.some.inj (e1.symm.trans d2)
      subst ex
      rcases y2 with y2 | ⟨o, y2⟩ | ⟨t', y2, y3, y4⟩
      · exact x2 y2.symm
      · rcases e8 with e8 | e8 | e8
        · rw [e8.2.1] at y2; cases y2
        · rw [e8.2.1] at y2; cases y2
        · rw [q] at e8; exact absurd e8.1 (by decide)
      · have := (tk t' (by omega) y3).2.1
        rw [y4, x3] at this
        have := Option.some.inj this
        omega
    have c52 : zA S 1001 t = 1 → mA v 52 t = zA S 1005 t := fun q => by
      rw [(k4 t (frs q)).2, hb.2.1 52 (by decide), a5]
    have skip : rfc S s l f0 t = false → g_X12_shorts_206 (f + 1) (nI s) (nI l) x4 a (nI t) v = g_X12_shorts_206 f (nI s) (nI l) x4 a (nI (t + 1)) v := fun q => by
      have q' : ¬ ((zA S 1005 t = 0 ∨ zA S 1005 t = 1) ∧ zA S 1001 t = 1 ∧ zA S 202 (hol S t) = nI s ∧ lotT S t = l ∧ ¬ some (hol S t) = f0) := of_decide_eq_false q
      by_cases z0 : nI t = x4
      · simp only [g_X12_shorts_206, kif, r_gb, gbn_s, r_grd, r_gbo, r_gret, r_gst, k_isIn, k_isSlot, k_isItem, k_isGroup, k_isRobot, k_are, k_holds0, k_holds1, k_holds2, k_holds3, k_bit, k_less, bI_t, bI_f, i10, i00, i01, i11, i20, i30, ↓reduceIte, c45, hge, if_pos z0, nI_1]
      · by_cases z1 : zA S 1001 t = 1
        · have c52' := c52 z1
          by_cases z2 : zA S 1005 t = 0 ∨ zA S 1005 t = 1
          · by_cases z3 : zA S 202 x' = nI s
            · by_cases z4 : nI l' = nI l
              · exfalso
                refine q' ⟨z2, z1, by rw [hx']; exact z3, by rw [hlt]; exact (nI_eq (by omega) (by omega)).mp z4, fun r => ?_⟩
                rcases hx4 with ⟨y1, y2⟩ | ⟨x0, t0, y1, y2, y3, y4⟩
                · rw [y1] at r; cases r
                · rw [y1, hx'] at r
                  have er := Option.some.inj r
                  have := (e7 z2).2.1
                  rw [er, y3] at this
                  exact z0 (by rw [y4, Option.some.inj this])
              · simp only [g_X12_shorts_206, kif, r_gb, gbn_s, r_grd, r_gbo, r_gret, r_gst, k_isIn, k_isSlot, k_isItem, k_isGroup, k_isRobot, k_are, k_holds0, k_holds1, k_holds2, k_holds3, k_bit, k_less, bI_t, bI_f, i10, i00, i01, i11, i20, i30, ↓reduceIte, c45, hge, if_neg z0, k_isOn ht h60, c52', if_pos z2, r_gnI b46 (show mL 46 < 2 ^ 31 by decide), r_gnI b47 (show mL 47 < 2 ^ 31 by decide), r_gnI b48 (show mL 48 < 2 ^ 31 by decide), ct, c46, c47, c48, z1, z3, z4, nI_1]
            · simp only [g_X12_shorts_206, kif, r_gb, gbn_s, r_grd, r_gbo, r_gret, r_gst, k_isIn, k_isSlot, k_isItem, k_isGroup, k_isRobot, k_are, k_holds0, k_holds1, k_holds2, k_holds3, k_bit, k_less, bI_t, bI_f, i10, i00, i01, i11, i20, i30, ↓reduceIte, c45, hge, if_neg z0, k_isOn ht h60, c52', if_pos z2, r_gnI b46 (show mL 46 < 2 ^ 31 by decide), r_gnI b48 (show mL 48 < 2 ^ 31 by decide), ct, c46, c48, z1, z3, nI_1]
          · simp only [g_X12_shorts_206, kif, r_gb, gbn_s, r_grd, r_gbo, r_gret, r_gst, k_isIn, k_isSlot, k_isItem, k_isGroup, k_isRobot, k_are, k_holds0, k_holds1, k_holds2, k_holds3, k_bit, k_less, bI_t, bI_f, i10, i00, i01, i11, i20, i30, ↓reduceIte, c45, hge, if_neg z0, k_isOn ht h60, c52', if_neg z2, nI_1]
        · by_cases z2 : mA v 52 t = 0 ∨ mA v 52 t = 1
          · simp only [g_X12_shorts_206, kif, r_gb, gbn_s, r_grd, r_gbo, r_gret, r_gst, k_isIn, k_isSlot, k_isItem, k_isGroup, k_isRobot, k_are, k_holds0, k_holds1, k_holds2, k_holds3, k_bit, k_less, bI_t, bI_f, i10, i00, i01, i11, i20, i30, ↓reduceIte, c45, hge, if_neg z0, k_isOn ht h60, if_pos z2, r_gnI b46 (show mL 46 < 2 ^ 31 by decide), ct, c46, z1, nI_1]
          · simp only [g_X12_shorts_206, kif, r_gb, gbn_s, r_grd, r_gbo, r_gret, r_gst, k_isIn, k_isSlot, k_isItem, k_isGroup, k_isRobot, k_are, k_holds0, k_holds1, k_holds2, k_holds3, k_bit, k_less, bI_t, bI_f, i10, i00, i01, i11, i20, i30, ↓reduceIte, c45, hge, if_neg z0, k_isOn ht h60, if_neg z2, nI_1]
    cases q : rfc S s l f0 t with
    | false =>
      rw [q, if_neg (by decide), List.append_nil] at Pn
      exact ⟨v, a, skip q, by rw [Pn]; exact i1, by rw [Pn]; exact i2'⟩
    | true =>
      rw [if_pos q] at Pn
      obtain ⟨q1, q2, q3, q4, q5⟩ := of_decide_eq_true q
      obtain ⟨m1, m2, m3⟩ := tk t ht q
      have q6 : ¬ nI t = x4 := fun r => by
        rcases hx4 with ⟨y1, y2⟩ | ⟨x0, t0, y1, y2, y3, y4⟩
        · have := (fcI_m1 (o := some t) (fun j hj => by cases hj; omega)).mp (r.trans y2)
          cases this
        · have ht0 := ((h.ho.2.1 x0 y2).2.2.2.2.2 t0 y3).1
          have : t = t0 := (nI_eq (by omega) (by omega)).mp (r.trans y4)
          subst this
          exact q5 (by rw [y1, h.co.uq m1 y2 m2 y3])
      have hXn : hol S t ∉ P t := fun r => frs q2 ⟨_, r, q5, m2⟩
      obtain ⟨u, u1, u2⟩ := KI.tsk (M' := zA S 204) h hb m1 q5 hXn (fun x hx => (Pm t (by omega) x hx).1) m2 (rcut (zA S 204) (P t) r) rfl (k1.cg fun x hx => by
        have : ¬ x = hol S t := fun e => by
          have := (List.mem_filter.mp hx).2
          obtain ⟨o, ho⟩ := hasO_t this
          rw [e, m3] at ho; cases ho
        rw [fcut_app _ _ _ hXn, if_neg this]) k2 k3 k4 k5 k6
      refine ⟨u, rcut (zA S 204) (P (t + 1)) r, ?_, rfl, by rw [Pn]; exact u2⟩
      have c52' := c52 q2
      have z3 : zA S 202 x' = nI s := by rw [← hx']; exact q3
      have z4 : nI l' = nI l := by rw [← q4, hlt]
      rw [Pn, rcut_app, i1]
      simp only [g_X12_shorts_206, kif, r_gb, gbn_s, r_grd, r_gbo, r_gret, r_gst, k_isIn, k_isSlot, k_isItem, k_isGroup, k_isRobot, k_are, k_holds0, k_holds1, k_holds2, k_holds3, k_bit, k_less, bI_t, bI_f, i10, i00, i01, i11, i20, i30, ↓reduceIte, c45, hge, if_neg q6, k_isOn ht h60, c52', if_pos q1, r_gnI b46 (show mL 46 < 2 ^ 31 by decide), r_gnI b47 (show mL 47 < 2 ^ 31 by decide), r_gnI b48 (show mL 48 < 2 ^ 31 by decide), ct, c46, c47, c48, q2, z3, z4, u1, nI_1]) (fun f v a hI => by
    have c45 : mI v 45 = nI (zN S 10) := by rw [hI.2.2.2.2.2.1, hb.2.2 45 (by decide)]; exact h.ta.2.2.1
    simp only [g_X12_shorts_206, kif, r_gb, gbn_s, r_grd, r_gbo, r_gret, r_gst, k_isIn, k_isSlot, k_isItem, k_isGroup, k_isRobot, k_are, k_holds0, k_holds1, k_holds2, k_holds3, k_bit, k_less, bI_t, bI_f, i10, i00, i01, i11, i20, i30, ↓reduceIte, c45, Int32.le_refl]) FU (FU_gt (by omega)) (w := v) (a := rcut (zA S 204) (cutL S s l f0 8) r) ⟨by rw [P0], by rw [P0]; exact hI⟩
  rw [PN] at i2
  exact ⟨u, e, i2⟩
/-- the reference's shorts -/
theorem Rel.kShorts (h : Rel B k S w0) {f0 : Option Nat} {x4 : Int32} (hx4 : X4 S f0 x4) {s l : Nat} (hs : s < 18) (hl : l < zN S 5) {w1 : MS} {r : Int32} (h51 : ∀ x0 t0, f0 = some x0 → zO S 205 x0 = some t0 → mA w1 51 t0 = mn (zA S 204 x0) r) (hw : KB S w0 (bkV w1 s l (r - mA w1 19 (12 * s + l))) f0) : ∃ v, g_X12_shorts (nI s) (nI l) r x4 w1 = some ((), v) ∧ KI S (bkV w1 s l (r - mA w1 19 (12 * s + l))) v f0 (cutL S s l f0 9) r := by
  have h12 := h.lo.1
  have h60 := h.ta.1
  obtain ⟨v1, p1, p2⟩ := KI.l43 h hw hx4 (s := s) hl (KI.rf h hw r)
  obtain ⟨v2, p3, p4⟩ := KI.l206 h hw hx4 hs hl p2
  refine ⟨v2, ?_, p4⟩
  rw [← p3, ← p1]
  have e12 : (12 : Int32) * nI s + nI l = nI (12 * s + l) := by rw [show (12 : Int32) = nI 12 from rfl, pk_mul, nI_add]
  have j19 : 12 * s + l < mL 19 := show 12 * s + l < 336 by omega
  have kb := k_books (w := w1) (show s < 28 by omega) (show l < 12 by omega) (r - mA w1 19 (12 * s + l))
  rcases hx4 with ⟨q1, q2⟩ | ⟨x0, t0, q1, q2, q3, q4⟩
  · subst q1; subst q2
    simp only [g_X12_shorts, kif, r_gb, gbn_s, r_grd, r_gbo, r_gret, r_gst, k_isIn, k_isSlot, k_isItem, k_isGroup, k_isRobot, k_are, k_holds0, k_holds1, k_holds2, k_holds3, k_bit, k_less, bI_t, bI_f, i10, i00, i01, i11, i20, i30, ↓reduceIte, e12, r_gnI j19 (show mL 19 < 2 ^ 31 by decide), nI_clamp (show 12 * s + l < 2 ^ 31 by omega), kb, Int32.sub_zero]
    rfl
  · subst q1; subst q4
    have ht0 := ((h.ho.2.1 x0 q2).2.2.2.2.2 t0 q3).1
    have hm1 : ¬ nI t0 = -1 := fun e => by
      have := (fcI_m1 (o := some t0) (fun j hj => by cases hj; omega)).mp e
      cases this
    have j51 : t0 < mL 51 := show t0 < 60 by omega
    have e51 : mA (bkV w1 s l (r - mA w1 19 (12 * s + l))) 51 t0 = mn (zA S 204 x0) r := by rw [bkV_A (by decide)]; exact h51 x0 t0 rfl q3
    simp only [g_X12_shorts, kif, r_gb, gbn_s, r_grd, r_gbo, r_gret, r_gst, k_isIn, k_isSlot, k_isItem, k_isGroup, k_isRobot, k_are, k_holds0, k_holds1, k_holds2, k_holds3, k_bit, k_less, bI_t, bI_f, i10, i00, i01, i11, i20, i30, ↓reduceIte, e12, r_gnI j19 (show mL 19 < 2 ^ 31 by decide), nI_clamp (show 12 * s + l < 2 ^ 31 by omega), kb, hm1, r_gnI j51 (show mL 51 < 2 ^ 31 by decide), nI_clamp (show t0 < 2 ^ 31 by omega), e51]
    rfl
end
