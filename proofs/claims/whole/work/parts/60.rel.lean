/-! what is held: the class's side -/
theorem sm_upd {f g : Nat → Int32} {x : Nat} : ∀ xs : List Nat, xs.Nodup → x ∈ xs → (∀ a, a ∈ xs → a ≠ x → g a = f a) → sm xs g = sm xs f + (g x - f x)
  | [], _, h, _ => by cases h
  | b :: t, h1, h2, h3 => by
    obtain ⟨n1, n2⟩ := List.nodup_cons.mp h1
    show g b + sm t g = f b + sm t f + (g x - f x)
    rcases List.mem_cons.mp h2 with e | e
    · subst e
      rw [sm_cg t (f := g) (g := f) fun a ha => h3 a (List.mem_cons_of_mem _ ha) fun r => n1 (r ▸ ha)]
      rw [Int32.sub_eq_add_neg, Int32.add_comm (g x), ← Int32.add_assoc, Int32.add_comm (f x + sm t f), Int32.add_assoc, Int32.add_assoc]
      have : f x + (sm t f + -f x) = sm t f := by rw [Int32.add_comm, Int32.add_assoc, Int32.add_left_neg, Int32.add_zero]
      rw [this, Int32.add_comm]
    · rw [h3 b (List.mem_cons_self ..) (fun r => n1 (r ▸ e)), sm_upd t n2 e fun a ha => h3 a (List.mem_cons_of_mem _ ha), Int32.add_assoc]
section
variable {S T : Ss} {w v : MS}
/-- the room that a holding's task awaits -/
def apH (S : Ss) (s i h : Nat) : Int32 := match zO S 205 h with
  | none => 0
  | some t => if ¬ zA S 1001 t = 2 ∧ zA S 1003 t = nI s ∧ itS S ((zO S 203 h).getD 0) = i then zA S 204 h else 0
def lnH (S : Ss) (j h : Nat) : Int32 := if zO S 201 h = some j then zA S 204 h else 0
/-- the sums over the holdings -/
def CH (S : Ss) : Prop := (∀ p l, p < 19 → l < 12 → zC S 3 (12 * p + l) = sm (hL S) (hpc S p l)) ∧ (∀ j, j < zN S 4 → zA S 402 j = sm (hL S) (lnH S j)) ∧ ∀ s i, s < 18 → i < 6 → zC S 4 (6 * s + i) = sm (hL S) (apH S s i)
/-- a holding is well formed -/
def hwf (S : Ss) (h : Nat) : Prop := ∃ l p, l < zN S 5 ∧ zO S 203 h = some l ∧ zA S 500 l = nI l ∧ zO S 501 l = some (itS S l) ∧ itS S l < 6 ∧ p < 19 ∧ zA S 202 h = nI p ∧ ((zO S 200 h = none ∧ zO S 201 h = none ∧ ∃ t, zO S 205 h = some t) ∨ ∃ o j, zO S 200 h = some o ∧ zO S 201 h = some j ∧ o < zN S 7 ∧ zA S 700 o = nI o ∧ j < zN S 4 ∧ p < 18) ∧ ∀ t, zO S 205 h = some t → t < zN S 10 ∧ zO S 1002 t = some h ∧ (zA S 1001 t = 2 ∨ ∃ s, s < 18 ∧ zA S 1003 t = nI s)
/-- what changing what is held leaves as it is -/
def SF (S T : Ss) : Prop := (∀ f, f ≠ 204 ∧ f ≠ 402 ∧ f ≠ 1004 ∧ f ≠ 1005 → zA T f = zA S f) ∧ zO T = zO S ∧ (∀ f, f ≠ 1107 → zL T f = zL S f) ∧ zP T = zP S ∧ (∀ f, f ≠ 3 ∧ f ≠ 4 → zC T f = zC S f) ∧ zM T = zM S ∧ zN T = zN S
theorem SF.rf (S : Ss) : SF S S := ⟨fun _ _ => rfl, rfl, fun _ _ => rfl, rfl, fun _ _ => rfl, rfl, rfl⟩
theorem SF.tr {S T U : Ss} (h : SF S T) (g : SF T U) : SF S U := by
  obtain ⟨a1, a2, a3, a4, a5, a6, a7⟩ := h
  obtain ⟨b1, b2, b3, b4, b5, b6, b7⟩ := g
  exact ⟨fun f hf => (b1 f hf).trans (a1 f hf), b2.trans a2, fun f hf => (b3 f hf).trans (a3 f hf), b4.trans a4, fun f hf => (b5 f hf).trans (a5 f hf), b6.trans a6, b7.trans a7⟩
theorem SF.wf (h : SF S T) {x : Nat} (g : hwf S x) : hwf T x := by
  obtain ⟨a1, a2, a3, a4, a5, a6, a7⟩ := h
  have hi : ∀ l, itS T l = itS S l := fun l => by unfold itS; rw [a2]
  unfold hwf
  simp only [hi]
  rw [a2, a7, a1 500 (by decide), a1 202 (by decide), a1 700 (by decide), a1 1001 (by decide), a1 1003 (by decide)]
  exact g
theorem itS_O (h : zO T 501 = zO S 501) (l : Nat) : itS T l = itS S l := by unfold itS; rw [h]
def apD (S : Ss) (s i x : Nat) (d : Int32) : Int32 := match zO S 205 x with
  | none => 0
  | some t => if ¬ zA S 1001 t = 2 ∧ zA S 1003 t = nI s ∧ itS S ((zO S 203 x).getD 0) = i then d else 0
theorem apD_n {s i x : Nat} {d : Int32} (h : zO S 205 x = none) : apD S s i x d = 0 := by unfold apD; rw [h]
theorem apD_s {s i x t : Nat} {d : Int32} (h : zO S 205 x = some t) : apD S s i x d = if ¬ zA S 1001 t = 2 ∧ zA S 1003 t = nI s ∧ itS S ((zO S 203 x).getD 0) = i then d else 0 := by unfold apD; rw [h]
theorem apH_n {s i x : Nat} (h : zO S 205 x = none) : apH S s i x = 0 := by unfold apH; rw [h]
theorem apH_s {s i x t : Nat} (h : zO S 205 x = some t) : apH S s i x = if ¬ zA S 1001 t = 2 ∧ zA S 1003 t = nI s ∧ itS S ((zO S 203 x).getD 0) = i then zA S 204 x else 0 := by unfold apH; rw [h]
def RLS (S T : Ss) (x : Nat) (d : Int32) : Prop := SF S T ∧ zL T = zL S ∧ (∀ h, zA T 204 h = if h = x then zA S 204 x - d else zA S 204 h) ∧ zA T 1004 = zA S 1004 ∧ zA T 1005 = zA S 1005 ∧ (∀ j, zA T 402 j = if zO S 201 x = some j then zA S 402 j - d else zA S 402 j) ∧ (∀ p l, p < 19 → l < 12 → zC T 3 (12 * p + l) = if zA S 202 x = nI p ∧ zO S 203 x = some l then zC S 3 (12 * p + l) - d else zC S 3 (12 * p + l)) ∧ ∀ s i, s < 18 → i < 6 → zC T 4 (6 * s + i) = zC S 4 (6 * s + i) - apD S s i x d
/-- the first part of releasing: all but the awaited room -/
theorem e_rel1 {x l p : Nat} (hl : l < 12) (c2 : zO S 203 x = some l) (c3 : zA S 500 l = nI l) (c6 : p < 19) (c7 : zA S 202 x = nI p) (d : Int32) : ∃ U, (f_X11_release x d).1 S = (f_X11_release_53 x d).1 U ∧ zO U = zO S ∧ zL U = zL S ∧ zP U = zP S ∧ zM U = zM S ∧ zN U = zN S ∧ (∀ f, f ≠ 3 → zC U f = zC S f) ∧ (∀ f, f ≠ 204 ∧ f ≠ 402 → zA U f = zA S f) ∧ (∀ h, zA U 204 h = if h = x then zA S 204 x - d else zA S 204 h) ∧ (∀ j, zA U 402 j = if zO S 201 x = some j then zA S 402 j - d else zA S 402 j) ∧ ∀ j, zC U 3 j = if j = 12 * p + l then zC S 3 j - d else zC S 3 j := by
  have eC : cAdd 3 (nI p) (nI l) (-d) (pA 204 x (zA S 204 x - d) S) = pC 3 (12 * p + l) (zC S 3 (12 * p + l) + -d) (pA 204 x (zA S 204 x - d) S) := cAdd_in (r := 3) (p := p) (l := l) hl (show p * 12 + l < 336 by omega)
  have hA : zA (pA 204 x (zA S 204 x - d) S) 202 x = nI p := by rw [fAA (by decide)]; exact c7
  have hA5 : zA (pA 204 x (zA S 204 x - d) S) 500 l = nI l := by rw [fAA (by decide)]; exact c3
  have e3 : ∀ j, zC (pC 3 (12 * p + l) (zC S 3 (12 * p + l) + -d) (pA 204 x (zA S 204 x - d) S)) 3 j = if j = 12 * p + l then zC S 3 j - d else zC S 3 j := fun j => by
    rw [sCC, tCA]
    by_cases e : j = 12 * p + l
    · rw [if_pos e, if_pos e, e, Int32.sub_eq_add_neg]
    · rw [if_neg e, if_neg e]
  cases q : zO S 201 x with
  | none =>
    refine ⟨pC 3 (12 * p + l) (zC S 3 (12 * p + l) + -d) (pA 204 x (zA S 204 x - d) S), ?_, by rw [tOC, tOA], by rw [tLC, tLA], by rw [tPC, tPA], by rw [tMC, tMA], by rw [tNC, tNA], fun f hf => by rw [fCC hf, tCA], fun f hf => by rw [tAC, fAA hf.1], fun h => by rw [tAC, sAA], fun j => by rw [tAC, fAA (by decide), if_neg (by simp)], e3⟩
    simp only [f_X11_release, r_mrd, r_wA, r_mbo, tOA, c2, r_mopt, r_madd, hA, hA5, eC, tOC, q, r_mcn]
  | some j0 =>
    have hA4 : zA (pC 3 (12 * p + l) (zC S 3 (12 * p + l) + -d) (pA 204 x (zA S 204 x - d) S)) 402 j0 = zA S 402 j0 := by rw [tAC, fAA (by decide)]
    refine ⟨pA 402 j0 (zA S 402 j0 - d) (pC 3 (12 * p + l) (zC S 3 (12 * p + l) + -d) (pA 204 x (zA S 204 x - d) S)), ?_, by rw [tOA, tOC, tOA], by rw [tLA, tLC, tLA], by rw [tPA, tPC, tPA], by rw [tMA, tMC, tMA], by rw [tNA, tNC, tNA], fun f hf => by rw [tCA, fCC hf, tCA], fun f hf => by rw [fAA hf.2, tAC, fAA hf.1], fun h => by rw [fAA (by decide), tAC, sAA], fun j => ?_, fun j => by rw [tCA]; exact e3 j⟩
    · simp only [f_X11_release, r_mrd, r_wA, r_mbo, tOA, c2, r_mopt, r_madd, hA, hA5, eC, tOC, q, r_mcs, hA4]
    · rw [sAA, tAC, fAA (by decide)]
      by_cases e : j = j0
      · rw [if_pos e, if_pos (by rw [e]), e]
      · rw [if_neg e, if_neg (fun r => e (Option.some.inj r).symm)]
theorem e_53n {U : Ss} {x : Nat} {d : Int32} (q : zO U 205 x = none) : (f_X11_release_53 x d).1 U = some ((), U) := by
  simp only [f_X11_release_53, r_mrd, r_mbo, q, r_mcn, r_mret]
theorem e_53p {U : Ss} {x t : Nat} {d : Int32} (q : zO U 205 x = some t) (q2 : zA U 1001 t = 2) : (f_X11_release_53 x d).1 U = some ((), U) := by
  simp only [f_X11_release_53, r_mrd, r_mbo, q, r_mcs, r_mopt, ite_f, if_pos q2, r_mret]
theorem e_ad4 {U : Ss} {s i : Nat} (d : Int32) (hs : s < 18) (hi : i < 6) : cAdd 4 (nI s) (nI i) d U = pC 4 (6 * s + i) (zC U 4 (6 * s + i) + d) U := by
  have e6 : cWd 4 = 6 := rfl
  have e := cAdd_in (S := U) (r := 4) (p := s) (l := i) (v := d) (by rw [e6]; exact hi) (by rw [e6]; show s * 6 + i < 108; omega)
  rw [e6] at e
  exact e
theorem e_53r {U : Ss} {x t l i s : Nat} {d : Int32} (q : zO U 205 x = some t) (q2 : ¬ zA U 1001 t = 2) (c2 : zO U 203 x = some l) (c4 : zO U 501 l = some i) (s2 : zA U 1003 t = nI s) (hI : zA U 300 i = nI i) (hs : s < 18) (hi : i < 6) : (f_X11_release_53 x d).1 U = some ((), pC 4 (6 * s + i) (zC U 4 (6 * s + i) + -d) U) := by
  unfold f_X11_release_53
  rw [r_mrd, r_mbo, q, r_mcs, r_mbo, r_mopt, ite_f, if_neg q2, r_mbo, r_mopt, r_mbo, c2, r_mopt, r_mbo, c4, r_mopt, r_madd, s2, hI, e_ad4 _ hs hi, r_mret]
theorem e_release (hI : ∀ i, i < 6 → zA S 300 i = nI i) (h12 : zN S 5 ≤ 12) {x : Nat} (hw : hwf S x) (d : Int32) : ∃ T, (f_X11_release x d).1 S = some ((), T) ∧ RLS S T x d := by
  obtain ⟨l, p, c1, c2, c3, c4, c5, c6, c7, c8, c9⟩ := hw
  have hl : l < 12 := by omega
  obtain ⟨U, u2, U_O, U_L, U_P, U_M, U_N, U_C, U_A, U_204, U_402, U_3'⟩ := e_rel1 hl c2 c3 c6 c7 d
  have U_3 : ∀ p' l', p' < 19 → l' < 12 → zC U 3 (12 * p' + l') = if zA S 202 x = nI p' ∧ zO S 203 x = some l' then zC S 3 (12 * p' + l') - d else zC S 3 (12 * p' + l') := fun p' l' hp hl' => by
    rw [U_3', c7, c2]
    by_cases e : p' = p ∧ l' = l
    · rw [if_pos (by omega), if_pos ⟨by rw [e.1], by rw [e.2]⟩]
    · rw [if_neg (by omega), if_neg (fun r => e ⟨((nI_eq (by omega) (by omega)).mp r.1).symm, (Option.some.inj r.2).symm⟩)]
  have U_4 : zC U 4 = zC S 4 := U_C 4 (by decide)
  have SFU : SF S U := ⟨fun f hf => U_A f ⟨hf.1, hf.2.1⟩, U_O, fun f _ => by rw [U_L], U_P, fun f hf => U_C f hf.1, U_M, U_N⟩
  have U5 : ∀ y, zO U 205 y = zO S 205 y := fun y => by rw [U_O]
  cases q : zO S 205 x with
  | none =>
    refine ⟨U, ?_, SFU, U_L, U_204, U_A 1004 (by decide), U_A 1005 (by decide), U_402, U_3, fun s i _ _ => ?_⟩
    · rw [u2]; exact e_53n ((U5 x).trans q)
    · rw [U_4, apD_n q, Int32.sub_zero]
  | some t =>
    obtain ⟨t1, t2, t3⟩ := c9 t q
    by_cases q2 : zA S 1001 t = 2
    · refine ⟨U, ?_, SFU, U_L, U_204, U_A 1004 (by decide), U_A 1005 (by decide), U_402, U_3, fun s i _ _ => ?_⟩
      · rw [u2]; exact e_53p ((U5 x).trans q) (by rw [U_A 1001 (by decide)]; exact q2)
      · rw [U_4, apD_s q, if_neg (fun r => r.1 q2), Int32.sub_zero]
    · rcases t3 with t3 | ⟨s, s1, s2⟩
      · exact absurd t3 q2
      · have U3 : ∀ y, zO U 203 y = zO S 203 y := fun y => by rw [U_O]
        have U51 : ∀ y, zO U 501 y = zO S 501 y := fun y => by rw [U_O]
        refine ⟨pC 4 (6 * s + itS S l) (zC U 4 (6 * s + itS S l) + -d) U, ?_, ⟨fun f hf => by rw [tAC]; exact SFU.1 f hf, by rw [tOC]; exact SFU.2.1, fun f hf => by rw [tLC]; exact SFU.2.2.1 f hf, by rw [tPC]; exact U_P, fun f hf => by rw [fCC hf.2]; exact U_C f hf.1, by rw [tMC]; exact U_M, by rw [tNC]; exact U_N⟩, by rw [tLC]; exact U_L, fun h => by rw [tAC]; exact U_204 h, by rw [tAC]; exact U_A 1004 (by decide), by rw [tAC]; exact U_A 1005 (by decide), fun j => by rw [tAC]; exact U_402 j, fun p' l' hp hl' => by rw [fCC (by decide)]; exact U_3 p' l' hp hl', fun s' i hs hi => ?_⟩
        · rw [u2]; exact e_53r ((U5 x).trans q) (by rw [U_A 1001 (by decide)]; exact q2) ((U3 x).trans c2) ((U51 l).trans c4) (by rw [U_A 1003 (by decide)]; exact s2) (by rw [U_A 300 (by decide)]; exact hI _ c5) s1 c5
        · rw [sCC, U_4, apD_s q, c2, s2]
          by_cases e : s' = s ∧ i = itS S l
          · rw [if_pos (by omega), if_pos ⟨q2, by rw [e.1], e.2.symm⟩, e.1, e.2, Int32.sub_eq_add_neg]
          · rw [if_neg (by omega), if_neg (fun r => e ⟨((nI_eq (by omega) (by omega)).mp r.2.1).symm, r.2.2.symm⟩), Int32.sub_zero]
theorem I_sub_self (a d : Int32) : a - d - a = -d := by
  rw [Int32.sub_eq_add_neg, Int32.sub_eq_add_neg, Int32.add_comm a, Int32.add_assoc, Int32.add_right_neg, Int32.add_zero]
theorem RLS.ch {x : Nat} {d : Int32} (h : RLS S T x d) (hc : CH S) (hn : (hL S).Nodup) (hx : x ∈ hL S) : CH T := by
  obtain ⟨⟨a1, a2, a3, a4, a5, a6, a7⟩, b1, b2, b3, b4, b5, b6, b7⟩ := h
  obtain ⟨c1, c2, c3⟩ := hc
  have eL : hL T = hL S := by unfold hL; rw [b1]
  unfold CH
  rw [eL, a7]
  refine ⟨fun p l hp hl => ?_, fun j hj => ?_, fun s i hs hi => ?_⟩
  · rw [b6 p l hp hl, c1 p l hp hl, sm_upd (f := hpc S p l) (g := hpc T p l) (x := x) _ hn hx fun a _ ha => by
      unfold hpc; rw [a1 202 (by decide), a2, b2, if_neg ha]]
    have : hpc T p l x - hpc S p l x = if zA S 202 x = nI p ∧ zO S 203 x = some l then -d else 0 := by
      unfold hpc; rw [a1 202 (by decide), a2, b2, if_pos rfl]
      split
      · exact I_sub_self _ _
      · rfl
    rw [this]; split
    · rw [Int32.sub_eq_add_neg]
    · rw [Int32.add_zero]
  · rw [b5 j, c2 j hj, sm_upd (f := lnH S j) (g := lnH T j) (x := x) _ hn hx fun a _ ha => by
      unfold lnH; rw [a2, b2, if_neg ha]]
    have : lnH T j x - lnH S j x = if zO S 201 x = some j then -d else 0 := by
      unfold lnH; rw [a2, b2, if_pos rfl]
      split
      · exact I_sub_self _ _
      · rfl
    rw [this]; split
    · rw [Int32.sub_eq_add_neg]
    · rw [Int32.add_zero]
  · have hi' : ∀ l, itS T l = itS S l := fun l => by unfold itS; rw [a2]
    have o5 : ∀ y, zO T 205 y = zO S 205 y := fun y => by rw [a2]
    have o3 : ∀ y, zO T 203 y = zO S 203 y := fun y => by rw [a2]
    rw [b7 s i hs hi, c3 s i hs hi, sm_upd (f := apH S s i) (g := apH T s i) (x := x) _ hn hx fun a _ ha => by
      cases q : zO S 205 a with
      | none => rw [apH_n q, apH_n ((o5 a).trans q)]
      | some t => rw [apH_s q, apH_s ((o5 a).trans q), a1 1001 (by decide), a1 1003 (by decide), hi', o3, b2, if_neg ha]]
    have : apH T s i x - apH S s i x = -(apD S s i x d) := by
      cases q : zO S 205 x with
      | none => rw [apH_n q, apH_n ((o5 x).trans q), apD_n q]; rfl
      | some t =>
        rw [apH_s q, apH_s ((o5 x).trans q), apD_s q, a1 1001 (by decide), a1 1003 (by decide), hi', o3, b2, if_pos rfl]
        by_cases e : ¬ zA S 1001 t = 2 ∧ zA S 1003 t = nI s ∧ itS S ((zO S 203 x).getD 0) = i
        · rw [if_pos e, if_pos e, if_pos e]; exact I_sub_self _ _
        · rw [if_neg e, if_neg e, if_neg e]; rfl
    rw [this, Int32.sub_eq_add_neg]
end
