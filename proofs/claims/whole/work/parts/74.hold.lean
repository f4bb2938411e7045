/-! a new holding, a new task -/
section
variable {S T : Ss} {w v : MS}
theorem iAA {f i i2 f2 : Nat} {x : Int32} (h : i2 ≠ i) : zA (pA f i x S) f2 i2 = zA S f2 i2 := if_neg fun r => h r.2
theorem iOO {f i i2 f2 : Nat} {x : Option Nat} (h : i2 ≠ i) : zO (pO f i x S) f2 i2 = zO S f2 i2 := if_neg fun r => h r.2
theorem nAi {c n f i : Nat} (h : i ≠ zN S c) : zA (pNew c n S) f i = zA S f i := if_neg fun r => h r.2
theorem nOi {c n f i : Nat} (h : i ≠ zN S c) : zO (pNew c n S) f i = zO S f i := if_neg fun r => h r.2
def HD (S T : Ss) (r1 r2 : Option Nat) (p l : Nat) (n : Int32) : Prop := (∀ f, f / 100 ≠ 2 → f ≠ 402 → zA T f = zA S f) ∧ (∀ f i, i ≠ zN S 2 → f ≠ 402 → zA T f i = zA S f i) ∧ zA T 202 (zN S 2) = nI p ∧ zA T 204 (zN S 2) = n ∧ (∀ j, zA T 402 j = if r2 = some j then zA S 402 j + n else zA S 402 j) ∧ (∀ f, f / 100 ≠ 2 → zO T f = zO S f) ∧ (∀ f i, i ≠ zN S 2 → zO T f i = zO S f i) ∧ zO T 200 (zN S 2) = r1 ∧ zO T 201 (zN S 2) = r2 ∧ zO T 203 (zN S 2) = some l ∧ zO T 205 (zN S 2) = none ∧ (∀ f, f ≠ 1107 → zL T f = zL S f) ∧ zL T 1107 0 = zL S 1107 0 ++ [zN S 2] ∧ (∀ f i, ¬ (f = 1107 ∧ i = 0) → zP T f i = zP S f i) ∧ (∀ f, f ≠ 3 → zC T f = zC S f) ∧ (∀ j, zC T 3 j = if j = 12 * p + l then zC S 3 j + n else zC S 3 j) ∧ zM T = zM S ∧ (∀ f, f ≠ 2 ∧ f ≠ 61 ∧ f ≠ 62 → zN T f = zN S f) ∧ zN T 2 = zN S 2 + 1 ∧ zN T 61 ≤ zN S 61 + 2 ∧ zN T 62 + 4 * zP S 1107 0 ≤ zN S 62 + 6 + 4 * zP T 1107 0 ∧ (zP S 1107 0 ≤ 3900 → zP T 1107 0 ≤ 3900)
def h1T (S : Ss) (r1 r2 : Option Nat) (p l : Nat) (n : Int32) : Ss := pA 204 (zN S 2) n (pO 203 (zN S 2) (some l) (pA 202 (zN S 2) (nI p) (pO 201 (zN S 2) r2 (pO 200 (zN S 2) r1 (pNew 2 6 S)))))
section
variable {r1 r2 : Option Nat} {p l : Nat} {n : Int32}
theorem h1_A {f : Nat} (hf : f / 100 ≠ 2) : zA (h1T S r1 r2 p l n) f = zA S f := by
  unfold h1T; rw [fAA (by intro e; subst e; exact hf rfl), tAO, fAA (by intro e; subst e; exact hf rfl), tAO, tAO, nA hf]
theorem h1_Ai {f i : Nat} (hi : i ≠ zN S 2) : zA (h1T S r1 r2 p l n) f i = zA S f i := by
  unfold h1T; rw [iAA hi, tAO, iAA hi, tAO, tAO, nAi hi]
theorem h1_O {f : Nat} (hf : f / 100 ≠ 2) : zO (h1T S r1 r2 p l n) f = zO S f := by
  unfold h1T; rw [tOA, fOO (by intro e; subst e; exact hf rfl), tOA, fOO (by intro e; subst e; exact hf rfl), fOO (by intro e; subst e; exact hf rfl), nO hf]
theorem h1_Oi {f i : Nat} (hi : i ≠ zN S 2) : zO (h1T S r1 r2 p l n) f i = zO S f i := by
  unfold h1T; rw [tOA, iOO hi, tOA, iOO hi, iOO hi, nOi hi]
theorem h1_L : zL (h1T S r1 r2 p l n) = zL S := by unfold h1T; rw [tLA, tLO, tLA, tLO, tLO, nL']
theorem h1_P : zP (h1T S r1 r2 p l n) = zP S := by unfold h1T; rw [tPA, tPO, tPA, tPO, tPO, nP']
theorem h1_C : zC (h1T S r1 r2 p l n) = zC S := by unfold h1T; rw [tCA, tCO, tCA, tCO, tCO, nC']
theorem h1_M : zM (h1T S r1 r2 p l n) = zM S := by unfold h1T; rw [tMA, tMO, tMA, tMO, tMO, nM']
theorem h1_N {f : Nat} : zN (h1T S r1 r2 p l n) f = zN (pNew 2 6 S) f := by unfold h1T; rw [tNA, tNO, tNA, tNO, tNO]
theorem h1_h : zA (h1T S r1 r2 p l n) 202 (zN S 2) = nI p ∧ zA (h1T S r1 r2 p l n) 204 (zN S 2) = n ∧ zO (h1T S r1 r2 p l n) 200 (zN S 2) = r1 ∧ zO (h1T S r1 r2 p l n) 201 (zN S 2) = r2 ∧ zO (h1T S r1 r2 p l n) 203 (zN S 2) = some l ∧ zO (h1T S r1 r2 p l n) 205 (zN S 2) = none := by
  unfold h1T
  refine ⟨?_, ?_, ?_, ?_, ?_, ?_⟩
  · rw [fAA (by decide), tAO, sAA, if_pos rfl]
  · rw [sAA, if_pos rfl]
  · rw [tOA, fOO (by decide), tOA, fOO (by decide), sOO, if_pos rfl]
  · rw [tOA, fOO (by decide), tOA, sOO, if_pos rfl]
  · rw [tOA, sOO, if_pos rfl]
  · rw [tOA, fOO (by decide), tOA, fOO (by decide), fOO (by decide), nO', if_pos ⟨rfl, rfl⟩]
theorem h1_eq : pA 204 (zN S 2) n (pO 203 (zN S 2) (some l) (pA 202 (zN S 2) (nI p) (pO 201 (zN S 2) r2 (pO 200 (zN S 2) r1 (pNew 2 6 S))))) = h1T S r1 r2 p l n := rfl
theorem e_ad3 {U : Ss} {p l : Nat} (d : Int32) (hp : p < 28) (hl : l < 12) : cAdd 3 (nI p) (nI l) d U = pC 3 (12 * p + l) (zC U 3 (12 * p + l) + d) U := by
  have e12 : cWd 3 = 12 := rfl
  have e := cAdd_in (S := U) (r := 3) (p := p) (l := l) (v := d) (by rw [e12]; exact hl) (by rw [e12]; show p * 12 + l < 336; omega)
  rw [e12] at e
  exact e
theorem e_hold (hp : p < 28) (hl : l < 12) (h5 : zA S 500 l = nI l) (hlen : (zL S 1107 0).length < 2600) : ∃ T, (f_X11_hold r1 r2 (nI p) l n).1 S = some (some (zN S 2), T) ∧ HD S T r1 r2 p l n := by
  obtain ⟨a, b, c, ea, ha, hb, hc, hc2⟩ := pAdd_eq 1107 0 (zN S 2) (h1T S r1 r2 p l n)
  rw [h1_L] at ea
  rw [h1_N, nN1 (by decide)] at ha
  rw [h1_P, h1_N, nN2 (by decide)] at hb
  rw [h1_P, h1_L] at hc2
  have hc9 : zP S 1107 0 ≤ 3900 → c ≤ 3900 := fun q => hc2 q fun e => by omega
  obtain ⟨U, hU⟩ : ∃ U, U = pN 61 a (pN 62 b (pL 1107 0 (zL S 1107 0 ++ [zN S 2]) c (h1T S r1 r2 p l n))) := ⟨_, rfl⟩
  rw [← hU] at ea
  obtain ⟨q1, q2, q3, q4, q5, q6⟩ := h1_h (S := S) (r1 := r1) (r2 := r2) (p := p) (l := l) (n := n)
  have UA : zA U = zA (h1T S r1 r2 p l n) := by rw [hU, tAN, tAN, tAL]
  have UO : zO U = zO (h1T S r1 r2 p l n) := by rw [hU, tON, tON, tOL]
  have UC : zC U = zC S := by rw [hU, tCN, tCN, tCL, h1_C]
  have UM : zM U = zM S := by rw [hU, tMN, tMN, tML, h1_M]
  have UL : ∀ f, f ≠ 1107 → zL U f = zL S f := fun f hf => by rw [hU, tLN, tLN, fLL hf, h1_L]
  have UL1 : zL U 1107 0 = zL S 1107 0 ++ [zN S 2] := by rw [hU, tLN, tLN, sLL, if_pos rfl]
  have UP : ∀ f i, ¬ (f = 1107 ∧ i = 0) → zP U f i = zP S f i := fun f i hf => by rw [hU, tPN, tPN, tPL', u2_at, if_neg hf, h1_P]
  have UP1 : zP U 1107 0 = c := by rw [hU, tPN, tPN, sPL, if_pos rfl]
  have UN : ∀ f, f ≠ 2 ∧ f ≠ 61 ∧ f ≠ 62 → zN U f = zN S f := fun f hf => by rw [hU, fNN hf.2.1, fNN hf.2.2, tNL, h1_N, nN hf]
  have UN2 : zN U 2 = zN S 2 + 1 := by rw [hU, fNN (by decide), fNN (by decide), tNL, h1_N, nNc]
  have U61 : zN U 61 = a := by rw [hU, sNN]
  have U62 : zN U 62 = b := by rw [hU, fNN (by decide), sNN]
  have e5 : zA U 500 l = nI l := by rw [UA, h1_A (by decide)]; exact h5
  obtain ⟨V, hV⟩ : ∃ V, V = pC 3 (12 * p + l) (zC U 3 (12 * p + l) + n) U := ⟨_, rfl⟩
  have VA : zA V = zA (h1T S r1 r2 p l n) := by rw [hV, tAC, UA]
  have VO : zO V = zO (h1T S r1 r2 p l n) := by rw [hV, tOC, UO]
  have VL : zL V = zL U := by rw [hV, tLC]
  have VP : zP V = zP U := by rw [hV, tPC]
  have VM : zM V = zM S := by rw [hV, tMC, UM]
  have VN : zN V = zN U := by rw [hV, tNC]
  have VC : ∀ f, f ≠ 3 → zC V f = zC S f := fun f hf => by rw [hV, fCC hf, UC]
  have VC3 : ∀ j, zC V 3 j = if j = 12 * p + l then zC S 3 j + n else zC S 3 j := fun j => by
    rw [hV, sCC, UC]
    by_cases e : j = 12 * p + l
    · rw [if_pos e, if_pos e, e]
    · rw [if_neg e, if_neg e]
  have run : (f_X11_hold r1 r2 (nI p) l n).1 S = (mcase r2 (mret (some (zN S 2))) fun i76 => wA 402 i76 ((zA V 402 i76) + n) <| mret (some (zN S 2))).1 V := by
    have hl2 : (zL (h1T S r1 r2 p l n) 1107 0).length < 2600 := by rw [h1_L]; exact hlen
    unfold f_X11_hold f_X2_init
    simp only [r_mnew, r_mb, r_wO, r_wA, r_mret, bnd_s, h1_eq, r_mladd hl2, ea, r_mrd, r_madd, e5, e_ad3 n hp hl, ← hV]
  have base : ∀ (T : Ss), zO T = zO V → zL T = zL V → zP T = zP V → zM T = zM V → zN T = zN V → zC T = zC V → (∀ f, f ≠ 402 → zA T f = zA V f) → (∀ j, zA T 402 j = if r2 = some j then zA S 402 j + n else zA S 402 j) → HD S T r1 r2 p l n := fun T g1 g2 g3 g4 g5 g6 g7 g8 => by
    refine ⟨fun f hf hf2 => by rw [g7 f hf2, VA, h1_A hf], fun f i hi hf2 => by rw [g7 f hf2, VA, h1_Ai hi], by rw [g7 202 (by decide), VA]; exact q1, by rw [g7 204 (by decide), VA]; exact q2, g8, fun f hf => by rw [g1, VO, h1_O hf], fun f i hi => by rw [g1, VO, h1_Oi hi], by rw [g1, VO]; exact q3, by rw [g1, VO]; exact q4, by rw [g1, VO]; exact q5, by rw [g1, VO]; exact q6, fun f hf => by rw [g2, VL, UL f hf], by rw [g2, VL, UL1], fun f i hf => by rw [g3, VP, UP f i hf], fun f hf => by rw [g6, VC f hf], fun j => by rw [g6, VC3], by rw [g4, VM], fun f hf => by rw [g5, VN, UN f hf], by rw [g5, VN, UN2], by rw [g5, VN, U61]; omega, by rw [g5, VN, U62, g3, VP, UP1]; omega, fun q => by rw [g3, VP, UP1]; exact hc9 q⟩
  rw [run]
  cases hr : r2 with
  | none =>
    refine ⟨V, by rw [r_mcn, r_mret], ?_⟩
    rw [← hr]
    exact base V rfl rfl rfl rfl rfl rfl (fun _ _ => rfl) fun j => by rw [hr, if_neg (by simp), VA, h1_A (by decide)]
  | some j0 =>
    refine ⟨pA 402 j0 (zA V 402 j0 + n) V, by rw [r_mcs, r_wA, r_mret], ?_⟩
    rw [← hr]
    refine base _ (by rw [tOA]) (by rw [tLA]) (by rw [tPA]) (by rw [tMA]) (by rw [tNA]) (by rw [tCA]) (fun f hf => fAA hf) fun j => ?_
    rw [hr, sAA, VA, h1_A (by decide)]
    by_cases e : j = j0
    · rw [if_pos e, if_pos (by rw [e]), e]
    · rw [if_neg e, if_neg (fun r => e (Option.some.inj r).symm)]
end
/-- a new task -/
def MK (S T : Ss) (kd : Int32) (h : Nat) (y : Int32) : Prop := (∀ f, f / 100 ≠ 10 → zA T f = zA S f) ∧ (∀ f i, i ≠ zN S 10 → zA T f i = zA S f i) ∧ zA T 1000 (zN S 10) = nI (zL S 1108 0).length ∧ zA T 1001 (zN S 10) = kd ∧ zA T 1003 (zN S 10) = y ∧ zA T 1004 (zN S 10) = zA S 204 h ∧ zA T 1005 (zN S 10) = 0 ∧ zA T 1006 (zN S 10) = 0 ∧ (∀ f, f / 100 ≠ 10 → f ≠ 205 → zO T f = zO S f) ∧ (∀ f i, i ≠ zN S 10 → f ≠ 205 → zO T f i = zO S f i) ∧ (∀ i, zO T 205 i = if i = h then some (zN S 10) else zO S 205 i) ∧ zO T 1002 (zN S 10) = some h ∧ (∀ f, f ≠ 1108 → zL T f = zL S f) ∧ zL T 1108 0 = zL S 1108 0 ++ [zN S 10] ∧ (∀ f i, ¬ (f = 1108 ∧ i = 0) → zP T f i = zP S f i) ∧ zM T = zM S ∧ (∀ f, f ≠ 10 ∧ f ≠ 61 ∧ f ≠ 62 → zN T f = zN S f) ∧ zN T 10 = zN S 10 + 1 ∧ zN T 61 ≤ zN S 61 + 2 ∧ zN T 62 + 4 * zP S 1108 0 ≤ zN S 62 + 7 + 4 * zP T 1108 0 ∧ (zP S 1108 0 ≤ 3900 → zP T 1108 0 ≤ 3900)
def t1T (S : Ss) (kd : Int32) (h : Nat) (y : Int32) : Ss := pA 1004 (zN S 10) (zA S 204 h) (pA 1003 (zN S 10) y (pO 1002 (zN S 10) (some h) (pA 1001 (zN S 10) kd (pA 1000 (zN S 10) (nI (zL S 1108 0).length) (pA 1005 (zN S 10) 0 (pNew 10 7 S))))))
section
variable {kd y : Int32} {h : Nat}
theorem t1_A {f : Nat} (hf : f / 100 ≠ 10) : zA (t1T S kd h y) f = zA S f := by
  unfold t1T; rw [fAA (by intro e; subst e; exact hf rfl), fAA (by intro e; subst e; exact hf rfl), tAO, fAA (by intro e; subst e; exact hf rfl), fAA (by intro e; subst e; exact hf rfl), fAA (by intro e; subst e; exact hf rfl), nA hf]
theorem t1_Ai {f i : Nat} (hi : i ≠ zN S 10) : zA (t1T S kd h y) f i = zA S f i := by
  unfold t1T; rw [iAA hi, iAA hi, tAO, iAA hi, iAA hi, iAA hi, nAi hi]
theorem t1_O {f : Nat} (hf : f / 100 ≠ 10) : zO (t1T S kd h y) f = zO S f := by
  unfold t1T; rw [tOA, tOA, fOO (by intro e; subst e; exact hf rfl), tOA, tOA, tOA, nO hf]
theorem t1_Oi {f i : Nat} (hi : i ≠ zN S 10) : zO (t1T S kd h y) f i = zO S f i := by
  unfold t1T; rw [tOA, tOA, iOO hi, tOA, tOA, tOA, nOi hi]
theorem t1_L : zL (t1T S kd h y) = zL S := by unfold t1T; rw [tLA, tLA, tLO, tLA, tLA, tLA, nL']
theorem t1_P : zP (t1T S kd h y) = zP S := by unfold t1T; rw [tPA, tPA, tPO, tPA, tPA, tPA, nP']
theorem t1_C : zC (t1T S kd h y) = zC S := by unfold t1T; rw [tCA, tCA, tCO, tCA, tCA, tCA, nC']
theorem t1_M : zM (t1T S kd h y) = zM S := by unfold t1T; rw [tMA, tMA, tMO, tMA, tMA, tMA, nM']
theorem t1_N {f : Nat} : zN (t1T S kd h y) f = zN (pNew 10 7 S) f := by unfold t1T; rw [tNA, tNA, tNO, tNA, tNA, tNA]
theorem t1_t : zA (t1T S kd h y) 1000 (zN S 10) = nI (zL S 1108 0).length ∧ zA (t1T S kd h y) 1001 (zN S 10) = kd ∧ zA (t1T S kd h y) 1003 (zN S 10) = y ∧ zA (t1T S kd h y) 1004 (zN S 10) = zA S 204 h ∧ zA (t1T S kd h y) 1005 (zN S 10) = 0 ∧ zA (t1T S kd h y) 1006 (zN S 10) = 0 ∧ zO (t1T S kd h y) 1002 (zN S 10) = some h := by
  unfold t1T
  refine ⟨?_, ?_, ?_, ?_, ?_, ?_, ?_⟩
  · rw [fAA (by decide), fAA (by decide), tAO, fAA (by decide), sAA, if_pos rfl]
  · rw [fAA (by decide), fAA (by decide), tAO, sAA, if_pos rfl]
  · rw [fAA (by decide), sAA, if_pos rfl]
  · rw [sAA, if_pos rfl]
  · rw [fAA (by decide), fAA (by decide), tAO, fAA (by decide), fAA (by decide), sAA, if_pos rfl]
  · rw [fAA (by decide), fAA (by decide), tAO, fAA (by decide), fAA (by decide), fAA (by decide), nA', if_pos ⟨rfl, rfl⟩]
  · rw [tOA, tOA, sOO, if_pos rfl]
theorem t1_eq : pA 1004 (zN S 10) (zA S 204 h) (pA 1003 (zN S 10) y (pO 1002 (zN S 10) (some h) (pA 1001 (zN S 10) kd (pA 1000 (zN S 10) (nI (zL S 1108 0).length) (pA 1005 (zN S 10) 0 (pNew 10 7 S)))))) = t1T S kd h y := rfl
theorem e_make0 (kd y : Int32) (h : Nat) (hlen : (zL S 1108 0).length < 2600) : ∃ V, MK S V kd h y ∧ zC V = zC S ∧ (f_X11_makeTask kd h y).1 S = (if kd = 2 then mret (some (zN S 10)) else mbo (zO V 203 h) fun r78 => mopt r78 fun i79 => mbo (zO V 501 i79) fun r80 => mopt r80 fun i81 => madd 4 y (zA V 300 i81) (zA V 204 h) <| mret (some (zN S 10))).1 V := by
  obtain ⟨a, b, c, ea, ha, hb, hc, hc2⟩ := pAdd_eq 1108 0 (zN S 10) (t1T S kd h y)
  rw [t1_L] at ea
  rw [t1_N, nN1 (by decide)] at ha
  rw [t1_P, t1_N, nN2 (by decide)] at hb
  rw [t1_P, t1_L] at hc2
  have hc9 : zP S 1108 0 ≤ 3900 → c ≤ 3900 := fun q => hc2 q fun e => by omega
  obtain ⟨U, hU⟩ : ∃ U, U = pN 61 a (pN 62 b (pL 1108 0 (zL S 1108 0 ++ [zN S 10]) c (t1T S kd h y))) := ⟨_, rfl⟩
  rw [← hU] at ea
  obtain ⟨q1, q2, q3, q4, q5, q6, q7⟩ := t1_t (S := S) (kd := kd) (y := y) (h := h)
  have UA : zA U = zA (t1T S kd h y) := by rw [hU, tAN, tAN, tAL]
  have UO : zO U = zO (t1T S kd h y) := by rw [hU, tON, tON, tOL]
  have UC : zC U = zC S := by rw [hU, tCN, tCN, tCL, t1_C]
  have UM : zM U = zM S := by rw [hU, tMN, tMN, tML, t1_M]
  have UL : ∀ f, f ≠ 1108 → zL U f = zL S f := fun f hf => by rw [hU, tLN, tLN, fLL hf, t1_L]
  have UL1 : zL U 1108 0 = zL S 1108 0 ++ [zN S 10] := by rw [hU, tLN, tLN, sLL, if_pos rfl]
  have UP : ∀ f i, ¬ (f = 1108 ∧ i = 0) → zP U f i = zP S f i := fun f i hf => by rw [hU, tPN, tPN, tPL', u2_at, if_neg hf, t1_P]
  have UP1 : zP U 1108 0 = c := by rw [hU, tPN, tPN, sPL, if_pos rfl]
  have UN : ∀ f, f ≠ 10 ∧ f ≠ 61 ∧ f ≠ 62 → zN U f = zN S f := fun f hf => by rw [hU, fNN hf.2.1, fNN hf.2.2, tNL, t1_N, nN hf]
  have UN2 : zN U 10 = zN S 10 + 1 := by rw [hU, fNN (by decide), fNN (by decide), tNL, t1_N, nNc]
  have U61 : zN U 61 = a := by rw [hU, sNN]
  have U62 : zN U 62 = b := by rw [hU, fNN (by decide), sNN]
  obtain ⟨V, hV⟩ : ∃ V, V = pO 205 h (some (zN S 10)) U := ⟨_, rfl⟩
  refine ⟨V, ⟨fun f hf => by rw [hV, tAO, UA, t1_A hf], fun f i hi => by rw [hV, tAO, UA, t1_Ai hi], by rw [hV, tAO, UA]; exact q1, by rw [hV, tAO, UA]; exact q2, by rw [hV, tAO, UA]; exact q3, by rw [hV, tAO, UA]; exact q4, by rw [hV, tAO, UA]; exact q5, by rw [hV, tAO, UA]; exact q6, fun f hf h2 => by rw [hV, fOO h2, UO, t1_O hf], fun f i hi h2 => by rw [hV, fOO h2, UO, t1_Oi hi], fun i => by rw [hV, sOO, UO, t1_O (by decide)], by rw [hV, fOO (by decide), UO]; exact q7, fun f hf => by rw [hV, tLO, UL f hf], by rw [hV, tLO, UL1], fun f i hf => by rw [hV, tPO, UP f i hf], by rw [hV, tMO, UM], fun f hf => by rw [hV, tNO, UN f hf], by rw [hV, tNO, UN2], by rw [hV, tNO, U61]; omega, by rw [hV, tNO, U62, tPO, UP1]; omega, fun q => by rw [hV, tPO, UP1]; exact hc9 q⟩, by rw [hV, tCO, UC], ?_⟩
  have hl2 : (zL (t1T S kd h y) 1108 0).length < 2600 := by rw [t1_L]; exact hlen
  have e204 : zA (pA 1003 (zN S 10) y (pO 1002 (zN S 10) (some h) (pA 1001 (zN S 10) kd (pA 1000 (zN S 10) (nI (zL S 1108 0).length) (pA 1005 (zN S 10) 0 (pNew 10 7 S)))))) 204 h = zA S 204 h := by
    rw [fAA (by decide), tAO, fAA (by decide), fAA (by decide), fAA (by decide), nA (by decide)]
  unfold f_X11_makeTask f_X10_init
  simp only [r_mnew, r_mrd, nL', r_mbo, r_mb, r_wO, r_wA, e204, r_mret, bnd_s, t1_eq, r_mladd hl2, ea, ← hV]
theorem MK.co {V : Ss} (hM : MK S V kd h y) (he : ∀ f, zA T f = zA V f) (ho : zO T = zO V) (hl : zL T = zL V) (hp : zP T = zP V) (hm : zM T = zM V) (hn : zN T = zN V) : MK S T kd h y := by
  unfold MK at hM ⊢
  simp only [he, ho, hl, hp, hm, hn]
  exact hM
/-- of a PICK -/
theorem e_makeP (y : Int32) (h : Nat) (hlen : (zL S 1108 0).length < 2600) : ∃ T, (f_X11_makeTask 2 h y).1 S = some (some (zN S 10), T) ∧ MK S T 2 h y ∧ zC T = zC S := by
  obtain ⟨V, v1, v2, v3⟩ := e_make0 (S := S) 2 y h hlen
  exact ⟨V, by rw [v3, if_pos rfl]; rfl, v1, v2⟩
/-- of a PUT, a REFILL -/
theorem e_makeR {s l i : Nat} (hk : ¬ kd = 2) (hlen : (zL S 1108 0).length < 2600) (hs : s < 18) (hi : i < 6) (h3 : zO S 203 h = some l) (h5 : zO S 501 l = some i) (hI : zA S 300 i = nI i) : ∃ T, (f_X11_makeTask kd h (nI s)).1 S = some (some (zN S 10), T) ∧ MK S T kd h (nI s) ∧ (∀ f, f ≠ 4 → zC T f = zC S f) ∧ ∀ j, zC T 4 j = if j = 6 * s + i then zC S 4 j + zA S 204 h else zC S 4 j := by
  obtain ⟨V, v1, v2, v3⟩ := e_make0 (S := S) kd (nI s) h hlen
  have o3 : zO V 203 h = some l := by rw [v1.2.2.2.2.2.2.2.2.1 203 (by decide) (by decide)]; exact h3
  have o5 : zO V 501 l = some i := by rw [v1.2.2.2.2.2.2.2.2.1 501 (by decide) (by decide)]; exact h5
  have a3 : zA V 300 i = nI i := by rw [v1.1 300 (by decide)]; exact hI
  have a2 : zA V 204 h = zA S 204 h := by rw [v1.1 204 (by decide)]
  refine ⟨pC 4 (6 * s + i) (zC V 4 (6 * s + i) + zA S 204 h) V, ?_, v1.co (fun f => by rw [tAC]) (by rw [tOC]) (by rw [tLC]) (by rw [tPC]) (by rw [tMC]) (by rw [tNC]), fun f hf => by rw [fCC hf, v2], fun j => ?_⟩
  · rw [v3, if_neg hk, r_mbo, o3, r_mopt, r_mbo, o5, r_mopt, r_madd, a3, a2, e_ad4 _ hs hi, r_mret]
  · rw [sCC, v2]
    by_cases e : j = 6 * s + i
    · rw [if_pos e, if_pos e, e]
    · rw [if_neg e, if_neg e]
end
end
