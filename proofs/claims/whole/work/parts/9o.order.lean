/-! the order of a wave -/
section
variable {S T S0 : Ss} {w v : MS}
/-- the candidates -/
def cdS (S : Ss) (z : Int32) (x : Nat) : Bool := match zO S 200 x with
  | none => false
  | some o => decide (zO S 205 x = none ∧ (z >>> (nI o &&& 31)) &&& 1 = 1)
theorem cdS_n {z : Int32} {x : Nat} (h : zO S 200 x = none) : cdS S z x = false := by unfold cdS; rw [h]
theorem cdS_s {z : Int32} {x o : Nat} (h : zO S 200 x = some o) : cdS S z x = decide (zO S 205 x = none ∧ (z >>> (nI o &&& 31)) &&& 1 = 1) := by unfold cdS; rw [h]
theorem cdS_o {z : Int32} {x : Nat} (h : cdS S z x = true) : ∃ o, zO S 200 x = some o ∧ zO S 205 x = none := by
  cases q : zO S 200 x with
  | none => rw [cdS_n q] at h; cases h
  | some o =>
    rw [cdS_s q] at h
    exact ⟨o, rfl, (of_decide_eq_true h).1⟩
def slN (S : Ss) (x : Nat) : Nat := (zA S 202 x).toNatClampNeg
def loN (S : Ss) (x : Nat) : Nat := (zO S 203 x).getD 0
def orN (S : Ss) (x : Nat) : Nat := (zO S 200 x).getD 0
/-- the place of a slot in a wave -/
def wk (s : Nat) : Nat := if s / 6 = 1 then 17 - s else s
def kR (S : Ss) (x : Nat) : Nat := wk (slN S x) * 96 + loN S x * 8 + orN S x
def kC (S : Ss) (x : Nat) : Nat := (wk (slN S x) * 12 + loN S x) * 9 + orN S x
/-- what a wave does not change -/
def FQ (S0 S : Ss) : Prop := zL S 1107 = zL S0 1107 ∧ zO S 200 = zO S0 200 ∧ zO S 201 = zO S0 201 ∧ zO S 203 = zO S0 203 ∧ zA S 202 = zA S0 202
theorem FQ.rf (S : Ss) : FQ S S := ⟨rfl, rfl, rfl, rfl, rfl⟩
theorem FQ.pk {x : Nat} (h : FQ S0 S) (g : PKS S T x) : FQ S0 T := by
  obtain ⟨h1, h2, h3, h4, h5⟩ := h
  obtain ⟨g1, g2, -, -, g5, -⟩ := g
  exact ⟨(g5 1107 (by decide)).trans h1, (g2 200 (by decide)).trans h2, (g2 201 (by decide)).trans h3, (g2 203 (by decide)).trans h4, (g1 202 (by decide)).trans h5⟩
theorem FQ.kRe (h : FQ S0 S) : kR S = kR S0 := by
  obtain ⟨h1, h2, h3, h4, h5⟩ := h
  funext x
  unfold kR slN loN orN
  rw [h2, h4, h5]
theorem mul_lex {t u o p : Nat} (ho : o < 8) (hp : p < 8) : t * 9 + o ≤ u * 9 + p ↔ t * 8 + o ≤ u * 8 + p := by
  rcases Nat.lt_trichotomy t u with q | q | q
  · constructor <;> intro _ <;> omega
  · subst q; constructor <;> intro _ <;> omega
  · constructor <;> intro _ <;> omega
/-- the list by falling keys, from below -/
def Wr (kf : Nat → Nat) (C : List Nat) (d : Nat) : List Nat := match d with
  | 0 => []
  | d + 1 => C.filter (fun y => decide (kf y = 1727 - d)) ++ Wr kf C d
theorem Wr_nil (kf : Nat → Nat) : ∀ d, Wr kf [] d = []
  | 0 => rfl
  | d + 1 => Wr_nil kf d
def FM (kf : Nat → Nat) (C : List Nat) (x : Nat) : Prop := ∃ pre suf, C = pre ++ x :: suf ∧ (∀ y, y ∈ pre → kf x < kf y) ∧ ∀ y, y ∈ suf → kf x ≤ kf y
theorem Wr_hd {kf : Nat → Nat} {pre suf : List Nat} {x : Nat} (h1 : ∀ y, y ∈ pre → kf x < kf y) (h2 : ∀ y, y ∈ suf → kf x ≤ kf y) (hx : kf x ≤ 1727) : ∀ d, d ≤ 1728 → Wr kf (pre ++ x :: suf) d = if d ≤ 1727 - kf x then Wr kf (pre ++ suf) d else x :: Wr kf (pre ++ suf) d
  | 0, _ => by rw [if_pos (Nat.zero_le _)]; rfl
  | d + 1, hd => by
    have ih := Wr_hd h1 h2 hx d (by omega)
    show (pre ++ x :: suf).filter (fun y => decide (kf y = 1727 - d)) ++ Wr kf (pre ++ x :: suf) d = if d + 1 ≤ 1727 - kf x then (pre ++ suf).filter (fun y => decide (kf y = 1727 - d)) ++ Wr kf (pre ++ suf) d else x :: ((pre ++ suf).filter (fun y => decide (kf y = 1727 - d)) ++ Wr kf (pre ++ suf) d)
    rw [ih]
    by_cases e : kf x = 1727 - d
    · have ep : pre.filter (fun y => decide (kf y = 1727 - d)) = [] := List.filter_eq_nil_iff.mpr fun y hy => by
        have := h1 y hy
        simp; omega
      rw [if_pos (show d ≤ 1727 - kf x by omega), if_neg (show ¬ d + 1 ≤ 1727 - kf x by omega), List.filter_append, List.filter_append, ep, List.filter_cons_of_pos (by simpa using e)]
      rfl
    · have ef : (pre ++ x :: suf).filter (fun y => decide (kf y = 1727 - d)) = (pre ++ suf).filter (fun y => decide (kf y = 1727 - d)) := by
        rw [List.filter_append, List.filter_append, List.filter_cons_of_neg (by simpa using e)]
      rw [ef]
      by_cases q : d + 1 ≤ 1727 - kf x
      · rw [if_pos q, if_pos (show d ≤ 1727 - kf x by omega)]
      · have en : (pre ++ suf).filter (fun y => decide (kf y = 1727 - d)) = [] := List.filter_eq_nil_iff.mpr fun y hy => by
          have : kf x ≤ kf y := by
            rcases List.mem_append.mp hy with r | r
            · have := h1 y r; omega
            · exact h2 y r
          simp; omega
        rw [if_neg q, if_neg (show ¬ d ≤ 1727 - kf x by omega), en]
        rfl
theorem Rel.kRB {B k : Nat} (h : Rel B k S w) {x o : Nat} (hx : x ∈ hL S) (ho : zO S 200 x = some o) : slN S x < 18 ∧ zA S 202 x = nI (slN S x) ∧ loN S x < 12 ∧ loN S x < zN S 5 ∧ zO S 203 x = some (loN S x) ∧ orN S x = o ∧ o < 8 ∧ wk (slN S x) < 18 ∧ kR S x ≤ 1727 := by
  have h12 := h.lo.1
  have h8 := h.or.1
  obtain ⟨j, hj, o7, jm, h705, s, hs, hsl⟩ := h.hpos hx ho
  obtain ⟨l, hl, hlo⟩ := (h.ho.2.1 x hx).2.2.1
  have e1 : slN S x = s := by unfold slN; rw [hsl, nI_clamp (by omega)]
  have e2 : loN S x = l := by unfold loN; rw [hlo]; rfl
  have e3 : orN S x = o := by unfold orN; rw [ho]; rfl
  have e4 : wk s < 18 := by unfold wk; split <;> omega
  refine ⟨by omega, by rw [e1]; exact hsl, by omega, by omega, by rw [e2]; exact hlo, e3, by omega, by rw [e1]; exact e4, ?_⟩
  unfold kR
  rw [e1, e2, e3]
  omega
theorem Rel.eIsFor {B k : Nat} (h : Rel B k S w) {x : Nat} (hx : x ∈ hL S) (z : Int32) : (f_X11_isForWave x z).1 S = some (bI (cdS S z x), S) := by
  cases ho : zO S 200 x with
  | none =>
    rw [cdS_n ho]
    simp only [f_X11_isForWave, r_mb, bnd_s, r_mrd, r_mbo, r_mret, r_mthr, r_wA, r_wO, r_madd, r_mput, r_mopt, r_mcn, r_mcs, ite_f, e_isWithin, e_isSlot, e_isItem, e_isGroup, e_isRobot, e_isLot, e_isNotice, e_isOrder, e_isTask, bI_t, bI_f, i10, i00, i01, i11, i20, i30, ↓reduceIte, ho]
  | some o =>
    rw [cdS_s ho]
    obtain ⟨j, hj, o7, -⟩ := h.hpos hx ho
    have et : trn S x = nI o := by unfold trn; rw [ho]; exact (h.or.2.2.2.2.1 o o7).1
    cases q : zO S 205 x with
    | some t =>
      have e : ¬ ((some t : Option Nat) = none ∧ (z >>> (nI o &&& 31)) &&& 1 = 1) := by simp
      rw [decide_eq_false e]
      simp only [f_X11_isForWave, r_mb, bnd_s, r_mrd, r_mbo, r_mret, r_mthr, r_wA, r_wO, r_madd, r_mput, r_mopt, r_mcn, r_mcs, ite_f, e_isWithin, e_isSlot, e_isItem, e_isGroup, e_isRobot, e_isLot, e_isNotice, e_isOrder, e_isTask, bI_t, bI_f, i10, i00, i01, i11, i20, i30, ↓reduceIte, ho, q]
    | none =>
      by_cases e : (z >>> (nI o &&& 31)) &&& 1 = 1
      · rw [decide_eq_true ⟨rfl, e⟩]
        simp only [f_X11_isForWave, r_mb, bnd_s, r_mrd, r_mbo, r_mret, r_mthr, r_wA, r_wO, r_madd, r_mput, r_mopt, r_mcn, r_mcs, ite_f, e_isWithin, e_isSlot, e_isItem, e_isGroup, e_isRobot, e_isLot, e_isNotice, e_isOrder, e_isTask, bI_t, bI_f, i10, i00, i01, i11, i20, i30, ↓reduceIte, ho, q, e_turn, et, e]
      · rw [decide_eq_false (fun r => e r.2)]
        simp only [f_X11_isForWave, r_mb, bnd_s, r_mrd, r_mbo, r_mret, r_mthr, r_wA, r_wO, r_madd, r_mput, r_mopt, r_mcn, r_mcs, ite_f, e_isWithin, e_isSlot, e_isItem, e_isGroup, e_isRobot, e_isLot, e_isNotice, e_isOrder, e_isTask, bI_t, bI_f, i10, i00, i01, i11, i20, i30, ↓reduceIte, ho, q, e_turn, et, e]
theorem Rel.eTurnW {B k : Nat} (h : Rel B k S w) {x : Nat} (hx : x ∈ hL S) : ∃ t, (f_X11_turnInWave x).1 S = some (t, S) ∧ ∀ o, zO S 200 x = some o → t = nI (kC S x) := by
  have h12 := h.lo.1
  obtain ⟨-, -, ⟨l, hl, hlo⟩, ⟨p, hp, hsl⟩, -⟩ := h.ho.2.1 x hx
  obtain ⟨b1, -⟩ := h.lo.2.2.2.1 l hl
  obtain ⟨t1, t2⟩ := hwf_trn (h.hwf hx)
  have e6 : nI p / 6 = nI (p / 6) := by rw [show (6 : Int32) = nI 6 from rfl, pk_div (by omega) (by decide) (by decide)]
  have e6r : nI p - nI (p / 6) * 6 = nI (p % 6) := by
    have := pk_rem (a := p) (d := 6) (by omega) (by decide) (by decide)
    rw [← e6]; exact this
  have e12 : ∀ a : Nat, nI a * (12 : Int32) = nI (a * 12) := fun a => by rw [show (12 : Int32) = nI 12 from rfl, pk_mul]
  have e9 : ∀ a : Nat, nI a * (9 : Int32) = nI (a * 9) := fun a => by rw [show (9 : Int32) = nI 9 from rfl, pk_mul]
  have fin : ∀ o, zO S 200 x = some o → (wk p * 12 + l) * 9 + tnN S x = kC S x := fun o ho => by
    unfold kC slN loN orN tnN
    rw [hsl, nI_clamp (by omega), hlo, ho]; rfl
  by_cases q : p / 6 = 1
  · have q1 : nI (p / 6) = 1 := by rw [q]; rfl
    have e6r' : nI p - 1 * 6 = nI (p % 6) := by rw [← q1]; exact e6r
    have e5 : (5 : Int32) - nI (p % 6) = nI (5 - p % 6) := by rw [show (5 : Int32) = nI 5 from rfl, pk_sub (by omega)]
    have ew : (1 : Int32) * 6 + nI (5 - p % 6) = nI (wk p) := by
      rw [show (1 : Int32) * 6 = nI 6 from rfl, nI_add]
      congr 1
      unfold wk
      rw [if_pos q]; omega
    refine ⟨nI ((wk p * 12 + l) * 9 + tnN S x), ?_, fun o ho => by rw [fin o ho]⟩
    simp only [f_X11_turnInWave, f_X11_turnInWave_28, r_mb, bnd_s, r_mrd, r_mbo, r_mret, r_mthr, r_wA, r_wO, r_madd, r_mput, r_mopt, r_mcn, r_mcs, ite_f, e_isWithin, e_isSlot, e_isItem, e_isGroup, e_isRobot, e_isLot, e_isNotice, e_isOrder, e_isTask, bI_t, bI_f, i10, i00, i01, i11, i20, i30, ↓reduceIte, hsl, e6, q1, e6r', e5, ew, hlo, e_turn, t1, b1, e12, nI_add, e9]
  · have q1 : ¬ nI (p / 6) = 1 := fun e => q ((nI_eq (b := 1) (by omega) (by decide)).mp e)
    have ew : nI (p / 6) * 6 + nI (p % 6) = nI (wk p) := by
      rw [show (6 : Int32) = nI 6 from rfl, pk_mul, nI_add]
      congr 1
      unfold wk
      rw [if_neg q]; omega
    refine ⟨nI ((wk p * 12 + l) * 9 + tnN S x), ?_, fun o ho => by rw [fin o ho]⟩
    simp only [f_X11_turnInWave, f_X11_turnInWave_28, r_mb, bnd_s, r_mrd, r_mbo, r_mret, r_mthr, r_wA, r_wO, r_madd, r_mput, r_mopt, r_mcn, r_mcs, ite_f, e_isWithin, e_isSlot, e_isItem, e_isGroup, e_isRobot, e_isLot, e_isNotice, e_isOrder, e_isTask, bI_t, bI_f, i10, i00, i01, i11, i20, i30, ↓reduceIte, hsl, e6, e6r, q1, ew, hlo, e_turn, t1, b1, e12, nI_add, e9]
/-- the next holding -/
theorem Rel.eNextW {B k : Nat} (h : Rel B k S w) (z : Int32) : ((hL S).filter (cdS S z) = [] ∧ (f_X11_nextForWave z).1 S = some (none, S)) ∨ ∃ x, x ∈ hL S ∧ (f_X11_nextForWave z).1 S = some (some x, S) ∧ FM (kR S) ((hL S).filter (cdS S z)) x := by
  have hlen := h.hlen
  have h8 := h.or.1
  obtain ⟨U, a, ⟨i1, i2⟩, e⟩ := m_loop (α := Option Nat × Int32) (fun f a j => f_X11_nextForWave_7 f z a.1 a.2 j) (hL S).length (fun i U a => U = S ∧ ((((hL S).take i).filter (cdS S z) = [] ∧ a.1 = none) ∨ ∃ x o, a.1 = some x ∧ x ∈ hL S ∧ zO S 200 x = some o ∧ a.2 = nI (kC S x) ∧ FM (kR S) (((hL S).take i).filter (cdS S z)) x)) (fun a U => some (a.1, U)) (fun f i U a hi hI => by
    obtain ⟨rfl, hI⟩ := hI
    have hx : (hL U)[i]? = some ((hL U)[i]'hi) := List.getElem?_eq_getElem hi
    generalize (hL U)[i]'hi = X at hx
    have hXm := List.mem_of_getElem? hx
    have hg : lAt (zL U 1107 0) (nI i) = some X := lAt_n (by omega) hx
    have hl0 : (zL U 1107 0).length = (hL U).length := rfl
    have hft := fil_take (cdS U z) _ i X hx
    have ei := h.eIsFor hXm z
    obtain ⟨t, t1, t2⟩ := h.eTurnW hXm
    by_cases q : cdS U z X = true
    · rw [if_pos q] at hft
      rw [q] at ei
      obtain ⟨o, ho, -⟩ := cdS_o q
      have et := t2 o ho
      obtain ⟨r1, r2, r3, r4, r5, r6, r7, r8, r9⟩ := h.kRB hXm ho
      rcases hI with ⟨c1, c2⟩ | ⟨x, o', c1, c2, c3, c4, pre, suf, c5, c6, c7⟩
      · refine ⟨U, (some X, t), ?_, rfl, Or.inr ⟨X, o, rfl, hXm, ho, et, [], [], ?_, fun y hy => absurd hy (by simp), fun y hy => absurd hy (by simp)⟩⟩
        · simp only [f_X11_nextForWave_7, r_mb, bnd_s, r_mrd, r_mbo, r_mret, r_mthr, r_wA, r_wO, r_madd, r_mput, r_mopt, r_mcn, r_mcs, ite_f, e_isWithin, e_isSlot, e_isItem, e_isGroup, e_isRobot, e_isLot, e_isNotice, e_isOrder, e_isTask, bI_t, bI_f, i10, i00, i01, i11, i20, i30, ↓reduceIte, hl0, nI_ge hi (show (hL U).length < 2 ^ 31 by omega), mlget, hg, t1, ei, c2, nI_1]
        · rw [hft, c1]
      · obtain ⟨s1, s2, s3, s4, s5, s6, s7, s8, s9⟩ := h.kRB c2 c3
        have kle : nI (kC U x) ≤ nI (kC U X) ↔ kR U x ≤ kR U X := by
          have b1 : kC U x < 2 ^ 31 := by unfold kC; rw [s6]; omega
          have b2 : kC U X < 2 ^ 31 := by unfold kC; rw [r6]; omega
          have m := mul_lex (t := wk (slN U x) * 12 + loN U x) (u := wk (slN U X) * 12 + loN U X) (o := orN U x) (p := orN U X) (by omega) (by omega)
          have e1 : kR U x = (wk (slN U x) * 12 + loN U x) * 8 + orN U x := by unfold kR; omega
          have e2 : kR U X = (wk (slN U X) * 12 + loN U X) * 8 + orN U X := by unfold kR; omega
          rw [e1, e2, ← m]
          show _ ↔ kC U x ≤ kC U X
          constructor
          · intro r
            refine Classical.byContradiction fun n => nI_ge (Nat.lt_of_not_le n) b1 r
          · intro r; exact nI_le r b2
        by_cases q2 : nI (kC U x) ≤ nI (kC U X)
        · refine ⟨U, (some x, nI (kC U x)), ?_, rfl, Or.inr ⟨x, o', rfl, c2, c3, rfl, pre, suf ++ [X], ?_, c6, fun y hy => ?_⟩⟩
          · simp only [f_X11_nextForWave_7, r_mb, bnd_s, r_mrd, r_mbo, r_mret, r_mthr, r_wA, r_wO, r_madd, r_mput, r_mopt, r_mcn, r_mcs, ite_f, e_isWithin, e_isSlot, e_isItem, e_isGroup, e_isRobot, e_isLot, e_isNotice, e_isOrder, e_isTask, bI_t, bI_f, i10, i00, i01, i11, i20, i30, ↓reduceIte, hl0, nI_ge hi (show (hL U).length < 2 ^ 31 by omega), mlget, hg, t1, ei, c1, c4, et, if_pos q2, nI_1]
          · rw [hft, c5, List.append_assoc]; rfl
          · rcases List.mem_append.mp hy with r | r
            · exact c7 y r
            · rw [List.mem_singleton.mp r]; exact kle.mp q2
        · refine ⟨U, (some X, nI (kC U X)), ?_, rfl, Or.inr ⟨X, o, rfl, hXm, ho, rfl, ((hL U).take i).filter (cdS U z), [], hft, fun y hy => ?_, fun y hy => absurd hy (by simp)⟩⟩
          · simp only [f_X11_nextForWave_7, r_mb, bnd_s, r_mrd, r_mbo, r_mret, r_mthr, r_wA, r_wO, r_madd, r_mput, r_mopt, r_mcn, r_mcs, ite_f, e_isWithin, e_isSlot, e_isItem, e_isGroup, e_isRobot, e_isLot, e_isNotice, e_isOrder, e_isTask, bI_t, bI_f, i10, i00, i01, i11, i20, i30, ↓reduceIte, hl0, nI_ge hi (show (hL U).length < 2 ^ 31 by omega), mlget, hg, t1, ei, c1, c4, et, if_neg q2, nI_1]
          · have q3 := mt kle.mpr q2
            rw [c5] at hy
            have : kR U x ≤ kR U y := by
              rcases List.mem_append.mp hy with r | r
              · exact Nat.le_of_lt (c6 y r)
              · rcases List.mem_cons.mp r with r | r
                · rw [r]; exact Nat.le_refl _
                · exact c7 y r
            omega
    · rw [if_neg q, List.append_nil] at hft
      have q' : cdS U z X = false := by simpa using q
      rw [q'] at ei
      refine ⟨U, a, ?_, rfl, by rw [hft]; exact hI⟩
      simp only [f_X11_nextForWave_7, r_mb, bnd_s, r_mrd, r_mbo, r_mret, r_mthr, r_wA, r_wO, r_madd, r_mput, r_mopt, r_mcn, r_mcs, ite_f, e_isWithin, e_isSlot, e_isItem, e_isGroup, e_isRobot, e_isLot, e_isNotice, e_isOrder, e_isTask, bI_t, bI_f, i10, i00, i01, i11, i20, i30, ↓reduceIte, hl0, nI_ge hi (show (hL U).length < 2 ^ 31 by omega), mlget, hg, t1, ei, nI_1]) (fun f U a hI => by
    obtain ⟨rfl, -⟩ := hI
    simp only [f_X11_nextForWave_7, r_mb, bnd_s, r_mrd, r_mbo, r_mret, r_mthr, r_wA, r_wO, r_madd, r_mput, r_mopt, r_mcn, r_mcs, ite_f, e_isWithin, e_isSlot, e_isItem, e_isGroup, e_isRobot, e_isLot, e_isNotice, e_isOrder, e_isTask, bI_t, bI_f, i10, i00, i01, i11, i20, i30, ↓reduceIte, show (zL U 1107 0).length = (hL U).length from rfl, Int32.le_refl]) FU (FU_gt (by omega)) (S := S) (a := (none, 0)) ⟨rfl, Or.inl ⟨rfl, rfl⟩⟩
  subst i1
  rw [List.take_length] at i2
  have e' : (f_X11_nextForWave z).1 U = (f_X11_nextForWave_7 FU z none 0 0).1 U := rfl
  rw [e']
  have e2 : (f_X11_nextForWave_7 FU z none 0 0).1 U = some (a.1, U) := e
  rw [e2]
  rcases i2 with ⟨c1, c2⟩ | ⟨x, o', c1, c2, c3, c4, c5⟩
  · left; rw [c2]; exact ⟨c1, rfl⟩
  · right; rw [c1]; exact ⟨x, c2, rfl, c5⟩
end
