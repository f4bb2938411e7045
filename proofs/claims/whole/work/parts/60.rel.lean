/-! what is held: the class's side -/
theorem sm_upd {f g : Nat → Int32} {x : Nat} : ∀ xs : List Nat, xs.Nodup → x ∈ xs → (∀ a, a ∈ xs → a ≠ x → g a = f a) → sm xs g = sm xs f + (g x - f x)
  | [], _, h, _ => by cases h
  | b :: t, h1, h2, h3 => by
    obtain ⟨n1, n2⟩ := List.nodup_cons.mp h1
    show g b + sm t g = f b + sm t f + (g x - f x)
    rcases List.mem_cons.mp h2 with e | e
    · subst e
      rw [sm_cg t (f := g) (g := f) fun a ha => h3 a (List.mem_cons_of_mem _ ha) fun r => n1 (r ▸ ha)]
      rw [Int32.sub_eq_add_neg, Int32.add_comm (g x), ← Int32.add_assoc, Int32.add_comm (f x + sm t f), Int32.add_assoc, Int32.add_assoc]
      have : f x + (sm t f + -f x) = sm t f := by rw [Int32.add_comm, Int32.add_assoc, Int32.add_left_neg, Int32.add_zero]
      rw [this, Int32.add_comm]
    · rw [h3 b (List.mem_cons_self ..) (fun r => n1 (r ▸ e)), sm_upd t n2 e fun a ha => h3 a (List.mem_cons_of_mem _ ha), Int32.add_assoc]
section
variable {S T : Ss} {w v : MS}
/-- the room that a holding's task awaits -/
def apH (S : Ss) (s i h : Nat) : Int32 := match zO S 205 h with
  | none => 0
  | some t => if ¬ zA S 1001 t = 2 ∧ zA S 1003 t = nI s ∧ itS S ((zO S 203 h).getD 0) = i then zA S 204 h else 0
def lnH (S : Ss) (j h : Nat) : Int32 := if zO S 201 h = some j then zA S 204 h else 0
/-- the sums over the holdings -/
def CH (S : Ss) : Prop := (∀ p l, p < 19 → l < 12 → zC S 3 (12 * p + l) = sm (hL S) (hpc S p l)) ∧ (∀ j, j < zN S 4 → zA S 402 j = sm (hL S) (lnH S j)) ∧ ∀ s i, s < 18 → i < 6 → zC S 4 (6 * s + i) = sm (hL S) (apH S s i)
/-- a holding is well formed -/
def hwf (S : Ss) (h : Nat) : Prop := ∃ l p, l < zN S 5 ∧ zO S 203 h = some l ∧ zA S 500 l = nI l ∧ zO S 501 l = some (itS S l) ∧ itS S l < 6 ∧ p < 19 ∧ zA S 202 h = nI p ∧ ((zO S 200 h = none ∧ zO S 201 h = none ∧ ∃ t, zO S 205 h = some t) ∨ ∃ o j, zO S 200 h = some o ∧ zO S 201 h = some j ∧ o < zN S 7 ∧ zA S 700 o = nI o ∧ j < zN S 4 ∧ p < 18) ∧ ∀ t, zO S 205 h = some t → t < zN S 10 ∧ zO S 1002 t = some h ∧ (zA S 1001 t = 2 ∨ ∃ s, s < 18 ∧ zA S 1003 t = nI s)
/-- what changing what is held leaves as it is -/
def SF (S T : Ss) : Prop := (∀ f, f ≠ 204 ∧ f ≠ 402 ∧ f ≠ 1004 ∧ f ≠ 1005 → zA T f = zA S f) ∧ zO T = zO S ∧ (∀ f, f ≠ 1107 → zL T f = zL S f) ∧ zP T = zP S ∧ (∀ f, f ≠ 3 ∧ f ≠ 4 → zC T f = zC S f) ∧ zM T = zM S ∧ zN T = zN S
theorem SF.rf (S : Ss) : SF S S := ⟨fun _ _ => rfl, rfl, fun _ _ => rfl, rfl, fun _ _ => rfl, rfl, rfl⟩
theorem SF.tr {S T U : Ss} (h : SF S T) (g : SF T U) : SF S U := by
  obtain ⟨a1, a2, a3, a4, a5, a6, a7⟩ := h
  obtain ⟨b1, b2, b3, b4, b5, b6, b7⟩ := g
  exact ⟨fun f hf => (b1 f hf).trans (a1 f hf), b2.trans a2, fun f hf => (b3 f hf).trans (a3 f hf), b4.trans a4, fun f hf => (b5 f hf).trans (a5 f hf), b6.trans a6, b7.trans a7⟩
theorem SF.wf (h : SF S T) {x : Nat} (g : hwf S x) : hwf T x := by
  obtain ⟨a1, a2, a3, a4, a5, a6, a7⟩ := h
  have hi : ∀ l, itS T l = itS S l := fun l => by unfold itS; rw [a2]
  unfold hwf
  simp only [hi]
  rw [a2, a7, a1 500 (by decide), a1 202 (by decide), a1 700 (by decide), a1 1001 (by decide), a1 1003 (by decide)]
  exact g
theorem itS_O (h : zO T 501 = zO S 501) (l : Nat) : itS T l = itS S l := by unfold itS; rw [h]
def RLS (S T : Ss) (x : Nat) (d : Int32) : Prop := SF S T ∧ zL T = zL S ∧ (∀ h, zA T 204 h = if h = x then zA S 204 x - d else zA S 204 h) ∧ zA T 1004 = zA S 1004 ∧ zA T 1005 = zA S 1005 ∧ (∀ j, zA T 402 j = if zO S 201 x = some j then zA S 402 j - d else zA S 402 j) ∧ (∀ p l, p < 19 → l < 12 → zC T 3 (12 * p + l) = if zA S 202 x = nI p ∧ zO S 203 x = some l then zC S 3 (12 * p + l) - d else zC S 3 (12 * p + l)) ∧ ∀ s i, s < 18 → i < 6 → zC T 4 (6 * s + i) = if (∃ t, zO S 205 x = some t ∧ ¬ zA S 1001 t = 2 ∧ zA S 1003 t = nI s ∧ itS S ((zO S 203 x).getD 0) = i) then zC S 4 (6 * s + i) - d else zC S 4 (6 * s + i)
theorem e_release (hI : ∀ i, i < 6 → zA S 300 i = nI i) (h12 : zN S 5 ≤ 12) {x : Nat} (hw : hwf S x) (d : Int32) : ∃ T, (f_X11_release x d).1 S = some ((), T) ∧ RLS S T x d := by
  obtain ⟨l, p, c1, c2, c3, c4, c5, c6, c7, c8, c9⟩ := hw
  have hl : l < 12 := by omega
  -- the table of what is held
  have eC : cAdd 3 (nI p) (nI l) (-d) (pA 204 x (zA S 204 x - d) S) = pC 3 (12 * p + l) (zC S 3 (12 * p + l) + -d) (pA 204 x (zA S 204 x - d) S) := cAdd_in (r := 3) (p := p) (l := l) hl (show p * 12 + l < 336 by omega)
  -- the line
  obtain ⟨U, u1, u2⟩ : ∃ U, U = (match zO S 201 x with | none => pC 3 (12 * p + l) (zC S 3 (12 * p + l) + -d) (pA 204 x (zA S 204 x - d) S) | some j => pA 402 j (zA S 402 j - d) (pC 3 (12 * p + l) (zC S 3 (12 * p + l) + -d) (pA 204 x (zA S 204 x - d) S))) ∧ (f_X11_release x d).1 S = (f_X11_release_53 x d).1 U := by
    refine ⟨_, rfl, ?_⟩
    have hA : zA (pA 204 x (zA S 204 x - d) S) 202 x = nI p := by rw [fAA (by decide)]; exact c7
    have hA5 : zA (pA 204 x (zA S 204 x - d) S) 500 l = nI l := by rw [fAA (by decide)]; exact c3
    cases q : zO S 201 x with
    | none => simp only [f_X11_release, r_mrd, r_wA, r_mbo, tOA, c2, r_mopt, r_madd, hA, hA5, eC, tOC, q, r_mcn]
    | some j =>
      have hA4 : zA (pC 3 (12 * p + l) (zC S 3 (12 * p + l) + -d) (pA 204 x (zA S 204 x - d) S)) 402 j = zA S 402 j := by rw [tAC, fAA (by decide)]
      simp only [f_X11_release, r_mrd, r_wA, r_mbo, tOA, c2, r_mopt, r_madd, hA, hA5, eC, tOC, q, r_mcs, hA4]
  have U_O : zO U = zO S := by rw [u1]; split <;> rfl
  have U_L : zL U = zL S := by rw [u1]; split <;> rfl
  have U_P : zP U = zP S := by rw [u1]; split <;> rfl
  have U_M : zM U = zM S := by rw [u1]; split <;> rfl
  have U_N : zN U = zN S := by rw [u1]; split <;> rfl
  have U_C : ∀ f, zC U f = zC (pC 3 (12 * p + l) (zC S 3 (12 * p + l) + -d) S) f := fun f => by rw [u1]; split <;> rfl
  have U_A : ∀ f, f ≠ 204 ∧ f ≠ 402 → zA U f = zA S f := fun f hf => by
    rw [u1]; split
    · rw [tAC, fAA hf.1]
    · rw [fAA hf.2, tAC, fAA hf.1]
  have U_204 : ∀ h, zA U 204 h = if h = x then zA S 204 x - d else zA S 204 h := fun h => by
    rw [u1]; split
    · rw [tAC, sAA]
    · rw [fAA (by decide), tAC, sAA]
  have U_402 : ∀ j, zA U 402 j = if zO S 201 x = some j then zA S 402 j - d else zA S 402 j := fun j => by
    rw [u1]
    cases q : zO S 201 x with
    | none =>
      show zA (pC 3 (12 * p + l) (zC S 3 (12 * p + l) + -d) (pA 204 x (zA S 204 x - d) S)) 402 j = _
      rw [tAC, fAA (by decide), if_neg (by simp)]
    | some j2 =>
      show zA (pA 402 j2 (zA S 402 j2 - d) (pC 3 (12 * p + l) (zC S 3 (12 * p + l) + -d) (pA 204 x (zA S 204 x - d) S))) 402 j = _
      rw [sAA, tAC, fAA (by decide)]
      by_cases e : j = j2
      · rw [if_pos e, if_pos (by rw [e]), e]
      · rw [if_neg e, if_neg (fun r => e (Option.some.inj r).symm)]
  have U_3 : ∀ p' l', p' < 19 → l' < 12 → zC U 3 (12 * p' + l') = if zA S 202 x = nI p' ∧ zO S 203 x = some l' then zC S 3 (12 * p' + l') - d else zC S 3 (12 * p' + l') := fun p' l' hp hl' => by
    rw [U_C, sCC, c7, c2]
    by_cases e : p' = p ∧ l' = l
    · rw [if_pos (by omega), if_pos ⟨by rw [e.1], by rw [e.2]⟩, e.1, e.2, Int32.sub_eq_add_neg]
    · rw [if_neg (by omega), if_neg (fun r => e ⟨((nI_eq (by omega) (by omega)).mp r.1).symm, (Option.some.inj r.2).symm⟩)]
  have U_4 : zC U 4 = zC S 4 := by rw [U_C, fCC (by decide)]
  have SFU : SF S U := ⟨fun f hf => U_A f ⟨hf.1, hf.2.1⟩, U_O, fun f _ => by rw [U_L], U_P, fun f hf => by rw [U_C, fCC hf.1], U_M, U_N⟩
  cases q : zO S 205 x with
  | none =>
    refine ⟨U, ?_, SFU, U_L, U_204, U_A 1004 (by decide), U_A 1005 (by decide), U_402, U_3, fun s i _ _ => ?_⟩
    · rw [u2]; simp only [f_X11_release_53, r_mrd, r_mbo, U_O, q, r_mcn, r_mret]
    · rw [U_4, if_neg]; rintro ⟨t, r, -⟩; cases r
  | some t =>
    obtain ⟨t1, t2, t3⟩ := c9 t q
    by_cases q2 : zA S 1001 t = 2
    · refine ⟨U, ?_, SFU, U_L, U_204, U_A 1004 (by decide), U_A 1005 (by decide), U_402, U_3, fun s i _ _ => ?_⟩
      · rw [u2]; simp only [f_X11_release_53, r_mrd, r_mbo, U_O, q, r_mcs, r_mopt, U_A 1001 (by decide), ite_f, if_pos q2, r_mret]
      · rw [U_4, if_neg]
        rintro ⟨t', r, r2, -⟩
        cases r; exact r2 q2
    · rcases t3 with t3 | ⟨s, s1, s2⟩
      · exact absurd t3 q2
      · have e4 : cAdd 4 (nI s) (nI (itS S l)) (-d) U = pC 4 (6 * s + itS S l) (zC U 4 (6 * s + itS S l) + -d) U := cAdd_in (r := 4) (p := s) (l := itS S l) c5 (show s * 6 + itS S l < 108 by omega)
        refine ⟨pC 4 (6 * s + itS S l) (zC U 4 (6 * s + itS S l) + -d) U, ?_, ⟨fun f hf => SFU.1 f hf, SFU.2.1, SFU.2.2.1, SFU.2.2.2.1, fun f hf => by rw [fCC hf.2]; exact SFU.2.2.2.2.1 f hf, SFU.2.2.2.2.2.1, SFU.2.2.2.2.2.2⟩, U_L, U_204, U_A 1004 (by decide), U_A 1005 (by decide), U_402, fun p' l' hp hl' => by rw [fCC (by decide)]; exact U_3 p' l' hp hl', fun s' i hs hi => ?_⟩
        · rw [u2]; simp only [f_X11_release_53, r_mrd, r_mbo, U_O, q, r_mcs, r_mopt, U_A 1001 (by decide), ite_f, if_neg q2, c2, c4, U_A 1003 (by decide), U_A 300 (by decide), s2, hI _ c5, r_madd, e4, r_mret]
        · rw [sCC, U_4]
          by_cases e : s' = s ∧ i = itS S l
          · rw [if_pos (by omega), if_pos ⟨t, rfl, q2, by rw [s2, e.1], by rw [c2]; exact e.2.symm⟩, e.1, e.2, Int32.sub_eq_add_neg]
          · rw [if_neg (by omega), if_neg]
            rintro ⟨t', r1, r2, r3, r4⟩
            cases r1
            rw [c2] at r4
            exact e ⟨(nI_eq (by omega) (by omega)).mp (r3.symm.trans s2), r4.symm⟩
theorem I_sub_self (a d : Int32) : a - d - a = -d := by
  rw [Int32.sub_eq_add_neg, Int32.sub_eq_add_neg, Int32.add_comm a, Int32.add_assoc, Int32.add_right_neg, Int32.add_zero]
theorem RLS.ch {x : Nat} {d : Int32} (h : RLS S T x d) (hc : CH S) (hn : (hL S).Nodup) (hx : x ∈ hL S) : CH T := by
  obtain ⟨⟨a1, a2, a3, a4, a5, a6, a7⟩, b1, b2, b3, b4, b5, b6, b7⟩ := h
  obtain ⟨c1, c2, c3⟩ := hc
  have eL : hL T = hL S := by unfold hL; rw [b1]
  unfold CH
  rw [eL, a7]
  refine ⟨fun p l hp hl => ?_, fun j hj => ?_, fun s i hs hi => ?_⟩
  · rw [b6 p l hp hl, c1 p l hp hl, sm_upd (f := hpc S p l) (g := hpc T p l) (x := x) _ hn hx fun a _ ha => by
      unfold hpc; rw [a1 202 (by decide), a2, b2, if_neg ha]]
    have : hpc T p l x - hpc S p l x = if zA S 202 x = nI p ∧ zO S 203 x = some l then -d else 0 := by
      unfold hpc; rw [a1 202 (by decide), a2, b2, if_pos rfl]
      split
      · exact I_sub_self _ _
      · rfl
    rw [this]; split
    · rw [Int32.sub_eq_add_neg]
    · rw [Int32.add_zero]
  · rw [b5 j, c2 j hj, sm_upd (f := lnH S j) (g := lnH T j) (x := x) _ hn hx fun a _ ha => by
      unfold lnH; rw [a2, b2, if_neg ha]]
    have : lnH T j x - lnH S j x = if zO S 201 x = some j then -d else 0 := by
      unfold lnH; rw [a2, b2, if_pos rfl]
      split
      · exact I_sub_self _ _
      · rfl
    rw [this]; split
    · rw [Int32.sub_eq_add_neg]
    · rw [Int32.add_zero]
  · have hi' : ∀ l, itS T l = itS S l := fun l => by unfold itS; rw [a2]
    rw [b7 s i hs hi, c3 s i hs hi, sm_upd (f := apH S s i) (g := apH T s i) (x := x) _ hn hx fun a _ ha => by
      unfold apH; rw [a2]
      cases q : zO S 205 a with
      | none => rfl
      | some t => dsimp only; rw [a1 1001 (by decide), a1 1003 (by decide), hi', b2, if_neg ha]]
    have : apH T s i x - apH S s i x = if (∃ t, zO S 205 x = some t ∧ ¬ zA S 1001 t = 2 ∧ zA S 1003 t = nI s ∧ itS S ((zO S 203 x).getD 0) = i) then -d else 0 := by
      unfold apH; rw [a2]
      cases q : zO S 205 x with
      | none => rw [if_neg (by rintro ⟨t, r, -⟩; cases r)]; rfl
      | some t =>
        dsimp only
        rw [a1 1001 (by decide), a1 1003 (by decide), hi', b2, if_pos rfl]
        by_cases e : ¬ zA S 1001 t = 2 ∧ zA S 1003 t = nI s ∧ itS S ((zO S 203 x).getD 0) = i
        · rw [if_pos e, if_pos e, if_pos ⟨t, rfl, e⟩]; exact I_sub_self _ _
        · rw [if_neg e, if_neg e, if_neg (by rintro ⟨t', r, r2⟩; cases r; exact e r2)]; rfl
    rw [this]; split
    · rw [Int32.sub_eq_add_neg]
    · rw [Int32.add_zero]
end
