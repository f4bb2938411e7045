/-! a robot's turn, whole -/
section
variable {B k : Nat} {S T S1 : Ss} {w v u w0 : MS}
theorem Rel.act (h : Rel B k S w) (hk : k + 2 ≤ 1024) (hB9 : B + 99 ≤ 8000000) {r : Nat} (hr : r < 3) : ∃ T u k', (f_X11_act r).1 S = some ((), T) ∧ g_X12_turns (nI r) w = some ((), u) ∧ Rel (B + 99) k' T u ∧ AU S T w u r k k' := by
  have h60 := h.ta.1
  have up : ∀ {T : Ss} {u : MS} {k' : Nat}, Rel B k' T u → Rel (B + 99) k' T u := fun {T u k'} R => by
    have nn : g_nn (B + 99) T := by
      obtain ⟨n1, n2, n3⟩ := R.nn
      refine ⟨hB9, fun j hj => ?_, fun j hj => ?_⟩
      · have := tI_of (n2 j hj); exact ⟨by omega, by omega⟩
      · have := tI_of (n3 j hj); exact ⟨by omega, by omega⟩
    exact ⟨R.sl, R.it, R.ba, R.sc, R.lo, R.be, R.no, R.ca, R.aw, R.or, R.li, R.bk, nn, R.tr, R.db, R.mv, R.ho, R.hs, R.hm, R.ta, R.ap, R.ro, R.st, R.bx⟩
  obtain ⟨S0, hS0⟩ : ∃ S0, S0 = pA 803 r (-1) S := ⟨_, rfl⟩
  obtain ⟨w0, hw0⟩ : ∃ w0, w0 = mSA 57 r (-1) w := ⟨_, rfl⟩
  have R0 : Rel B k S0 w0 := by rw [hS0, hw0]; exact h.wt r (-1) (-1)
  have A0 : ∀ f, f ≠ 803 → zA S0 f = zA S f := fun f hf => by rw [hS0, fAA hf]
  have O0 : zO S0 = zO S := by rw [hS0]; rfl
  have N0 : zN S0 = zN S := by rw [hS0]; rfl
  have P0 : zP S0 = zP S := by rw [hS0]; rfl
  have W0 : ∀ f, f ≠ 57 → mA w0 f = mA w f := fun f hf => by rw [hw0, fBA hf]
  have e803 : ∀ q, zA S0 803 q = if q = r then -1 else zA S 803 q := fun q => by rw [hS0, sAA]
  have e57 : ∀ q, mA w0 57 q = if q = r then -1 else mA w 57 q := fun q => by rw [hw0, sBA]
  have I0 : mI w0 = mI w := by rw [hw0]; rfl
  have ef := R0.eFirst hr
  have R1 := R0.frRel hr
  obtain ⟨S1, hS1⟩ : ∃ S1, S1 = frT S0 r := ⟨_, rfl⟩
  rw [← hS1] at ef R1
  have A1 : zA S1 = zA S0 := by rw [hS1]; rfl
  have O1 : zO S1 = zO S0 := by rw [hS1]; rfl
  have N1 : zN S1 = zN S0 := by rw [hS1]; rfl
  have P1 : zP S1 = zP S0 := by rw [hS1]; exact frT_P S0 r
  have cT1 : cT S1 (zN S 10) = cT S (zN S 10) := cT_eq (fun t => by rw [A1, A0 1005 (by decide)]) (fun t => by rw [A1, A0 1006 (by decide)]) _
  have r57 : mA w0 57 r = zA S1 803 r := by rw [A1, e57, e803, if_pos rfl, if_pos rfl]
  -- from S1 on
  have au : ∀ {T : Ss} {u : MS} {k' : Nat}, AU S1 T w0 u r k k' → AU S T w u r k k' := fun {T u k'} q => by
    obtain ⟨q1, q2, q3, q4, q5, q6, q7, q8⟩ := q
    refine ⟨q1.trans (P1.trans P0), fun f hf => (q2 f hf).trans (by rw [N1, N0]), ?_, q4.trans (by rw [A1, A0 705 (by decide)]), fun q hq => ⟨by rw [(q5 q hq).1, e57, if_neg hq], by rw [(q5 q hq).2, A1, e803, if_neg hq]⟩, q6, ?_, q8.trans (by rw [I0])⟩
    · unfold cst at q3 ⊢; rw [N1, N0] at q3; exact q3
    · rw [N1, N0, cT1] at q7; exact q7
  have sm1 : ∀ {T : Ss} {u : MS}, (∀ f, f ≠ 801 ∧ f ≠ 802 → zA T f = zA S1 f) → zP T = zP S1 → zN T = zN S1 → mA u 57 = mA w0 57 → mI u 0 = mI w0 0 → AU S1 T w0 u r k k := fun {T u} t1 t2 t3 t4 t5 => by
    refine ⟨t2, fun f _ => by rw [t3], by unfold cst; rw [t3]; exact ⟨Nat.le_refl _, Nat.le_refl _, Nat.le_refl _⟩, t1 705 (by decide), fun q _ => ⟨by rw [t4], by rw [t1 803 (by decide)]⟩, by rw [t4, t1 803 (by decide)]; exact r57, ?_, t5⟩
    have : cT T (zN S1 10) = cT S1 (zN S1 10) := cT_eq (fun _ => by rw [t1 1005 (by decide)]) (fun _ => by rw [t1 1006 (by decide)]) _
    omega
  obtain ⟨-, -, a3, a4, -, a6, -⟩ := R0.ro.1 r hr
  have fr : (f_X8_goToFront r).1 S1 = some ((), pA 802 r 0 (pA 801 r (-1) S1)) := rfl
  have frA : ∀ f, f ≠ 801 ∧ f ≠ 802 → zA (pA 802 r 0 (pA 801 r (-1) S1)) f = zA S1 f := fun f hf => by rw [fAA hf.2, fAA hf.1]
  have hlen := R0.rlen2 hr
  cases hd : rowS S0 r with
  | nil =>
    rw [hd] at a3
    have z59 : mA w 59 r = 0 := by rw [← W0 59 (by decide), a3]; rfl
    refine ⟨_, mSA 55 r (-1) w0, k, ?_, ?_, up (R1.front r), au (sm1 frA rfl rfl (fBA (by decide)) rfl)⟩
    · unfold f_X11_act
      rw [r_wA, ← hS0, r_mb, ef, hd, bnd_s, List.head?_nil, r_mcn, r_mb, fr, bnd_s, r_mret]
    · rw [hw0]; exact k_tn hr z59
  | cons t ts =>
    rw [hd] at a3 a4 hlen
    have htm : t ∈ rowS S0 r := by rw [hd]; exact List.mem_cons_self ..
    obtain ⟨m1, m2⟩ := List.mem_filter.mp htm
    have ht0 := (a6 t m1).1
    have ht : t < zN S1 10 := by rw [N1]; exact ht0
    have t60 : t < 60 := by rw [N0] at ht0; omega
    have h5 : zA S1 1005 t = 1 := by rw [A1]; exact of_decide_eq_true m2
    have nz : ¬ mA w 59 r = 0 := by
      rw [← W0 59 (by decide), a3]
      exact nI_ne0 (by simp) (by rw [N0] at hlen; omega)
    have h58 : mA w 58 (60 * r) = nI t := by rw [← W0 58 (by decide)]; exact a4 0 t rfl
    have k29 := k_t29 (w := w) hr nz h58
    rw [← hw0] at k29
    obtain ⟨-, t46, t49, -, -, -, -, x0, l, d1, -, d3, -, -, d6, d7, d8⟩ := R1.ta.2.2.2 t ht
    obtain ⟨-, -, t54, b6⟩ := d7 (Or.inr h5)
    have c0 : (f_X11_act r).1 S = (mb (f_X10_nextStation t) fun x56 => if x56 = (-1) then f_X11_act_37 r (some t) x56 (-1) else f_X11_act_37 r (some t) x56 (x56 / 6)).1 S1 := by
      unfold f_X11_act
      rw [r_wA, ← hS0, r_mb, ef, hd, bnd_s, List.head?_cons, r_mcs]
    by_cases q : zA S1 1001 t = 0 ∧ zA S1 1006 t = 0
    · -- it must be taken at the front
      have k2 : ¬ zA S1 1001 t = 2 := by rw [q.1]; decide
      have ns : (f_X10_nextStation t).1 S1 = some (-1, S1) := by
        simp only [f_X10_nextStation, r_mrd, ite_f, q.1, q.2, ↓reduceIte, r_mret]
      have ka := k_ta (w := w0) hr t60 (by rw [t46, q.1]) (by rw [t54, q.2])
      have a55 := (R1.ro.1 r hr).1
      have c1 : (f_X11_act r).1 S = (if zA S1 801 r = -1 then (wA 1006 t 1 <| mret () : MM Unit) else mb (f_X8_goToFront r) fun _ => mret ()).1 S1 := by
        rw [c0, r_mb, ns, bnd_s, ite_f, if_pos rfl]
        unfold f_X11_act_37 f_X11_act_66
        rw [r_mrd, r_mbo, ite_f, if_pos rfl, ite_f, ite_f]
        by_cases z : zA S1 801 r = -1
        · rw [if_pos z, if_pos z, r_mopt]
        · rw [if_neg z, if_neg z, r_mrd, if_pos rfl]
      by_cases z : zA S1 801 r = -1
      · refine ⟨pA 1006 t 1 S1, mSA 54 t 1 w0, k, ?_, ?_, up (R1.loadA ht k2), au ⟨rfl, fun _ _ => rfl, cst.rf S1, by rw [fAA (by decide)], fun p _ => ⟨by rw [fBA (by decide)], by rw [fAA (by decide)]⟩, by rw [fBA (by decide), fAA (by decide)]; exact r57, ?_, rfl⟩⟩
        · rw [c1, if_pos z, r_wA, r_mret]
        · rw [k29, ka, if_pos (by rw [a55]; exact z)]
        · have cu := cT_up (S := S1) (T := pA 1006 t 1 S1) (t := t) (d := 1) (by
            unfold ctb
            rw [fAA (by decide), h5, sAA, if_pos rfl, q.2]; rfl) (zN S1 10) (fun p _ hn => by
            unfold ctb
            rw [fAA (by decide), sAA, if_neg hn])
          rw [if_pos ht] at cu
          omega
      · refine ⟨_, mSA 55 r (-1) w0, k, ?_, ?_, up (R1.front r), au (sm1 frA rfl rfl (fBA (by decide)) rfl)⟩
        · rw [c1, if_neg z, r_mb, fr, bnd_s, r_mret]
        · rw [k29, ka, if_neg (by rw [a55]; exact z)]
    · -- a station in a slot
      have qw : ¬ (mA w0 46 t = 0 ∧ mA w0 54 t = 0) := by rw [t46, t54]; exact q
      have kb := k_tb (w := w0) (r := r) t60 qw
      obtain ⟨s, hs, ns, kt⟩ : ∃ s, s < 18 ∧ (f_X10_nextStation t).1 S1 = some (nI s, S1) ∧ g_X12_turns_102 (nI r) (nI t) 0 w0 = gbnV (g_X12_goesTo (nI r) (nI t) (nI s) w0) := by
        rcases d8 with ⟨e1, -, -, -, -, s, e2, e3⟩ | ⟨e1, -, -, ⟨p, e4, e5⟩, -, s, e2, e3⟩ | ⟨e1, ⟨p, e2, e3⟩, e4, -⟩
        · have e6 : ¬ zA S1 1006 t = 0 := fun r => q ⟨e1, r⟩
          refine ⟨s, e2, ?_, ?_⟩
          · unfold f_X10_nextStation
            rw [r_mrd, ite_f, if_neg e6, r_mret, e3]
          · rw [k_td t60 (Or.inl (by rw [t46, e1])), t49, e3]
        · by_cases e6 : zA S1 1006 t = 0
          · refine ⟨p, e4, ?_, ?_⟩
            · unfold f_X10_nextStation
              rw [r_mrd, ite_f, if_pos e6, ite_f, if_neg (by rw [e1]; decide), r_mbo, d1, r_mopt, r_mret, e5]
            · rw [k_tc t60 (Or.inr ⟨by rw [t46, e1], by rw [t54, e6]⟩), d6, e5]
          · refine ⟨s, e2, ?_, ?_⟩
            · unfold f_X10_nextStation
              rw [r_mrd, ite_f, if_neg e6, r_mret, e3]
            · rw [k_td t60 (Or.inr ⟨by rw [t46, e1], by rw [t54]; exact e6⟩), t49, e3]
        · have e6 := e4 (Or.inr h5)
          refine ⟨p, e2, ?_, ?_⟩
          · unfold f_X10_nextStation
            rw [r_mrd, ite_f, if_pos e6, ite_f, if_neg (by rw [e1]; decide), r_mbo, d1, r_mopt, r_mret, e3]
          · rw [k_tc t60 (Or.inl (by rw [t46, e1])), d6, e3]
      obtain ⟨T, u, k', f1, f2, f3, f4⟩ := R1.go hk hB9 hr ht h5 q hs r57
      refine ⟨T, u, k', ?_, ?_, f3, au f4⟩
      · have hm1 : ¬ nI s = -1 := fun e => nI_ne1 s hs e.symm
        rw [c0, r_mb, ns, bnd_s, ite_f, if_neg hm1, f1]
      · rw [k29, kb, kt, f2]; rfl
/-- what many turns may use -/
def PU (S T : Ss) (w v : MS) (k k' : Nat) : Prop := zP T = zP S ∧ (∀ f, f ≠ 60 ∧ f ≠ 61 ∧ f ≠ 62 → zN T f = zN S f) ∧ cst S T ∧ zA T 705 = zA S 705 ∧ k' + cT S (zN S 10) ≤ k + cT T (zN S 10) ∧ mI v 0 = mI w 0
theorem PU.rf : PU S S w w k k := ⟨rfl, fun _ _ => rfl, cst.rf S, rfl, Nat.le_refl _, rfl⟩
theorem PU.tr {k1 k2 : Nat} {U : Ss} (h : PU S T w v k k1) (g : PU T U v u k1 k2) : PU S U w u k k2 := by
  obtain ⟨h1, h2, h3, h4, h5, h6⟩ := h
  obtain ⟨g1, g2, g3, g4, g5, g6⟩ := g
  rw [h2 10 (by decide)] at g5
  exact ⟨g1.trans h1, fun f hf => (g2 f hf).trans (h2 f hf), h3.tr g3, g4.trans h4, by omega, g6.trans h6⟩
end
theorem acts (K : Int32 → Int32 → MM (Nat × Int32)) (x1 x2 : Int32) : ∀ d r, r + d = 3 → ∀ (B k : Nat) (S : Ss) (w : MS), Rel B k S w → k + 120 ≤ 900 + cT S (zN S 10) → B + 99 * d ≤ 8000000 → (∀ q, q < r → mA w 57 q = zA S 803 q) → ∀ f g, d < f → d < g → ∃ T v k', (f_X11_pass_47 K f x1 x2 (nI (aLn 1102)) (nI r)).1 S = (mb (f_X11_undoStandstill) fun _ => K x1 (x2 + 1)).1 T ∧ g_X12_ticks_12 g (nI r) w = g_X12_ticks_32 FU (-1) 0 v ∧ Rel (B + 99 * d) k' T v ∧ (∀ q, q < 3 → mA v 57 q = zA T 803 q) ∧ PU S T w v k k'
  | 0, r, hrd, B, k, S, w, h, hk, hB, hw, f, g, hf, hg => by
    obtain ⟨f, rfl⟩ : ∃ f', f = f' + 1 := ⟨f - 1, by omega⟩
    obtain ⟨g, rfl⟩ : ∃ f', g = f' + 1 := ⟨g - 1, by omega⟩
    have e : r = 3 := by omega
    subst e
    refine ⟨S, w, k, ?_, ?_, h, hw, PU.rf⟩
    · unfold f_X11_pass_47
      rw [ite_f, if_pos (show nI (aLn 1102) ≤ nI 3 by decide)]
    · unfold g_X12_ticks_12
      rw [kif, if_pos (show (3 : Int32) ≤ nI 3 by decide)]
  | d + 1, r, hrd, B, k, S, w, h, hk, hB, hw, f, g, hf, hg => by
    obtain ⟨f, rfl⟩ : ∃ f', f = f' + 1 := ⟨f - 1, by omega⟩
    obtain ⟨g, rfl⟩ : ∃ f', g = f' + 1 := ⟨g - 1, by omega⟩
    have hr : r < 3 := by omega
    have h3 : ¬ nI (aLn 1102) ≤ nI r := nI_ge (show r < aLn 1102 from hr) (by decide)
    have h3' : ¬ (3 : Int32) ≤ nI r := nI_ge (b := 3) hr (by decide)
    have h60 := h.ta.1
    have cle := cT_le (S := S) (zN S 10)
    obtain ⟨T, u, k', f1, f2, f3, p1, p2, p3, p4, p5, p6, p7, p8⟩ := h.act (by omega) (by omega) hr
    obtain ⟨T2, v, k2, g1, g2, g3, g4, g5⟩ := acts K x1 x2 d (r + 1) (by omega) (B + 99) k' T u f3 (by rw [p2 10 (by decide)]; omega) (by omega) (fun q hq => by
      by_cases e : q = r
      · rw [e]; exact p6
      · rw [(p5 q e).1, (p5 q e).2]; exact hw q (by omega)) f g (by omega) (by omega)
    refine ⟨T2, v, k2, ?_, ?_, by rw [show B + 99 * (d + 1) = B + 99 + 99 * d by omega]; exact g3, g4, PU.tr ⟨p1, p2, p3, p4, p7, p8⟩ g5⟩
    · rw [← g1]
      show (if _ then _ else _ : MM (Nat × Int32)).1 S = _
      rw [ite_f, if_neg h3, r_mnI (show r < aLn 1102 from hr) (show aLn 1102 < 2 ^ 31 by decide), r_mb, nI_clamp (show r < 2 ^ 31 by omega), f1, bnd_s, nI_1]
    · rw [← g2]
      show (if _ then _ else _ : GM Unit) w = _
      rw [kif, if_neg h3', r_gb, f2, gbn_s, nI_1]
theorem hb_e (B d c : Nat) : B + c * (d + 1) = B + c + c * d := by rw [Nat.mul_add, Nat.mul_one, Nat.add_comm (c * d), Nat.add_assoc]
theorem hb_4 {B d c M : Nat} (h : B + c * (d + 1) ≤ M) : B + c + c * d ≤ M := by rw [← hb_e]; exact h
theorem hb_3 {B d M : Nat} (h : B + 297 * (d + 1) ≤ M) : B + 99 * 3 ≤ M := Nat.le_trans (Nat.le_add_right (B + 297) (297 * d)) (hb_4 h)
theorem passes {n : Nat} (hn : n ≤ 50) : ∀ d i, i + d = n → ∀ (B k : Nat) (S : Ss) (w : MS), Rel B k S w → k + 120 ≤ 900 + cT S (zN S 10) → B + 297 * d ≤ 8000000 → ∀ f g, d < f → d < g → ∃ T v k' r, (f_X11_pass_20 f (nI n) (nI i)).1 S = some ((0, r), T) ∧ g_X12_pass_26 g (nI n) (nI i) w = some (r, v) ∧ Rel (B + 297 * d) k' T v ∧ PU S T w v k k'
  | 0, i, hid, B, k, S, w, h, hk, hB, f, g, hf, hg => by
    obtain ⟨f, rfl⟩ : ∃ f', f = f' + 1 := ⟨f - 1, by omega⟩
    obtain ⟨g, rfl⟩ : ∃ f', g = f' + 1 := ⟨g - 1, by omega⟩
    have e : i = n := by omega
    subst e
    refine ⟨S, w, k, zA S 1116 0, ?_, ?_, h, PU.rf⟩
    · unfold f_X11_pass_20
      rw [r_mrd, ite_f, if_pos (Int32.le_refl _), r_mret]
    · unfold g_X12_pass_26
      rw [r_grd, kif, if_pos (Int32.le_refl _), r_gret, h.sc.1]
  | d + 1, i, hid, B, k, S, w, h, hk, hB, f, g, hf, hg => by
    obtain ⟨f, rfl⟩ : ∃ f', f = f' + 1 := ⟨f - 1, by omega⟩
    obtain ⟨g, rfl⟩ : ∃ f', g = f' + 1 := ⟨g - 1, by omega⟩
    have hin : ¬ nI n ≤ nI i := nI_ge (by omega) (by omega)
    obtain ⟨S0, hS0⟩ : ∃ S0, S0 = pA 1116 0 (zA S 1116 0 + 1) S := ⟨_, rfl⟩
    obtain ⟨w0, hw0⟩ : ∃ w0, w0 = mSI 1 (zA S 1116 0 + 1) w := ⟨_, rfl⟩
    have R0 : Rel B k S0 w0 := by rw [hS0, hw0]; exact h.nowA _
    have c0 : cT S0 (zN S 10) = cT S (zN S 10) := cT_eq (fun _ => by rw [hS0, fAA (by decide)]) (fun _ => by rw [hS0, fAA (by decide)]) _
    have n0 : zN S0 = zN S := by rw [hS0]; rfl
    have u0 : PU S S0 w w0 k k := ⟨by rw [hS0]; rfl, fun _ _ => by rw [n0], by unfold cst; rw [n0]; exact ⟨Nat.le_refl _, Nat.le_refl _, Nat.le_refl _⟩, by rw [hS0, fAA (by decide)], by omega, by rw [hw0, fII (by decide)]⟩
    have hb3 : B + 99 * 3 ≤ 8000000 := hb_3 hB
    obtain ⟨T1, v1, k1, f1, f2, f3, f4, f5⟩ := acts (f_X11_pass_20 f) (nI n) (nI i) 3 0 rfl B k S0 w0 R0 (by
      have e : cT S0 (zN S0 10) = cT S (zN S 10) := by rw [n0]; exact c0
      omega) hb3 (fun q hq => absurd hq (Nat.not_lt_zero q)) FU FU (FU_gt (by decide)) (FU_gt (by decide))
    obtain ⟨T2, v2, e1, e2, e3⟩ := f3.undo f4
    have R2 : Rel (B + 297) k1 T2 v2 ∧ PU T1 T2 v1 v2 k1 k1 := by
      rcases e3 with ⟨q1, q2⟩ | ⟨r, hr, q1, q2⟩
      · rw [q1, q2]; exact ⟨f3, PU.rf⟩
      · rw [q1, q2]
        have ua : ∀ f, f ≠ 801 ∧ f ≠ 802 ∧ f ≠ 1117 → zA (udS T1 r) f = zA T1 f := fun f hf => by unfold udS; rw [fAA hf.2.2, fAA hf.2.1, fAA hf.1]
        refine ⟨f3.udR r, rfl, fun _ _ => rfl, cst.rf T1, ua 705 (by decide), ?_, ?_⟩
        · have : cT (udS T1 r) (zN T1 10) = cT T1 (zN T1 10) := cT_eq (fun _ => by rw [ua 1005 (by decide)]) (fun _ => by rw [ua 1006 (by decide)]) _
          omega
        · unfold udV; rw [fII (by decide)]; rfl
    have U := (u0.tr f5).tr R2.2
    obtain ⟨-, U2, -, -, U5, -⟩ := id U
    obtain ⟨T, v, k', r, g1, g2, g3, g4⟩ := passes hn d (i + 1) (by omega) (B + 297) k1 T2 v2 R2.1 (by rw [U2 10 (by decide)]; omega) (hb_4 hB) f g (by omega) (by omega)
    refine ⟨T, v, k', r, ?_, ?_, by rw [hb_e]; exact g3, U.tr g4⟩
    · have z0 : nI 0 = (0 : Int32) := rfl
      rw [z0] at f1
      simp only [f_X11_pass_20, r_mrd, ite_f, hin, ↓reduceIte, r_wA, ← hS0, r_mbo, f1, r_mb, e1, bnd_s, nI_1, g1]
    · have z0 : nI 0 = (0 : Int32) := rfl
      rw [z0] at f2
      have tk : g_X12_ticks w = some ((), v2) := by
        unfold g_X12_ticks
        rw [r_grd, r_gst, h.sc.1, ← hw0, f2, e2]
      simp only [g_X12_pass_26, r_grd, kif, hin, ↓reduceIte, r_gb, tk, gbn_s, nI_1, g2]
section
variable {m : Nat} {S : Ss} {w : MS}
theorem s_pass (g : GG m S w) (hm : m < 512) (x : Int32) : STi GG m S w (f_X11_pass x) (g_X12_pass x) [(2, 1)] := by
  obtain ⟨B, k, hB, hk, hk2, hc1, hc2, h⟩ := g.out
  cases h1 : inI x 1 50 with
  | false =>
    refine sti_th g hm (u := 2) (c := 1) (r := 0) ?_ ?_ (by simp) (by decide) (by decide)
    · simp only [f_X11_pass, r_mb, bnd_s, r_mrd, r_mbo, r_mret, r_mthr, r_wA, r_wO, r_madd, r_mput, r_mopt, r_mcn, r_mcs, ite_f, e_isWithin, e_isSlot, e_isItem, e_isGroup, e_isRobot, e_isLot, e_isNotice, e_isOrder, e_isTask, bI_t, bI_f, i10, i00, i01, i11, i20, i30, ↓reduceIte, h1]; try rfl
    · simp only [g_X12_pass, g_X12_pass_16, kif, r_gb, gbn_s, r_grd, r_gbo, r_gret, r_gst, k_isIn, k_isSlot, k_isItem, k_isGroup, k_isRobot, k_are, k_holds0, k_holds1, k_holds2, k_holds3, k_bit, k_less, bI_t, bI_f, i10, i00, i01, i11, i20, i30, ↓reduceIte, h1]; try rfl
  | true =>
    have hx := inI_t h1
    have e1 : (1 : Int32).toInt = 1 := by decide
    have e50 : (50 : Int32).toInt = 50 := by decide
    rw [e1, e50] at hx
    have ok : okI x 51 = true := decide_eq_true ⟨fun r => by
      have := Int32.lt_iff_toInt_lt.mp r
      have e0 : (0 : Int32).toInt = 0 := by decide
      omega, Int32.lt_iff_toInt_lt.mpr (by rw [nI_toInt (by decide)]; omega)⟩
    obtain ⟨n, hn, rfl⟩ := okI_t (by decide) ok
    obtain ⟨T, v, k', r, f1, f2, f3, p1, p2, p3, p4, p5, p6⟩ := passes (n := n) (by omega) n 0 (by omega) B k S (mSI 0 0 w) (h.thr 0) (by omega) (by omega) FU FU (FU_gt (by omega)) (FU_gt (by omega))
    have z0 : nI 0 = (0 : Int32) := rfl
    rw [z0] at f1 f2
    have ecap : capS T = capS S := by unfold capS; rw [p1]
    have ecS : cS T (zN S 7) = cS S (zN S 7) := cS_eq (fun _ => by rw [p4]) _
    unfold cst at p3
    refine sti_st (T := T) (v := v) (r := r) ?_ ?_ ?_ p6
    · exact g.inn hm (by omega) (by rw [ecap]; omega) (by unfold g_cp; rw [p1, p2 7 (by decide)]; exact g.2.2.1) hB hk (show B + 297 * n ≤ B + 15000 by omega) (by rw [p2 10 (by decide), p2 7 (by decide), ecS]; omega) f3
    · simp only [f_X11_pass, r_mb, bnd_s, r_mrd, r_mbo, r_mret, r_mthr, r_wA, r_wO, r_madd, r_mput, r_mopt, r_mcn, r_mcs, ite_f, e_isWithin, e_isSlot, e_isItem, e_isGroup, e_isRobot, e_isLot, e_isNotice, e_isOrder, e_isTask, bI_t, bI_f, i10, i00, i01, i11, i20, i30, ↓reduceIte, h1, f1]
    · simp only [g_X12_pass, g_X12_pass_16, kif, r_gb, gbn_s, r_grd, r_gbo, r_gret, r_gst, k_isIn, k_isSlot, k_isItem, k_isGroup, k_isRobot, k_are, k_holds0, k_holds1, k_holds2, k_holds3, k_bit, k_less, bI_t, bI_f, i10, i00, i01, i11, i20, i30, ↓reduceIte, h1, f2]
end
