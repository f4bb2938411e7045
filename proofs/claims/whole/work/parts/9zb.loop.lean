/-! the class's constructor: its three loops -/
def LQ (C : Nat → Nat) (σ : St) (base q st i kd ln : Nat) (ad0 : Nat → Nat) (ce0 : Nat → Cell) (cf : (Nat → Nat) → Nat → Cell) : Prop := ∃ ad ce, HVC C σ (base + i * st) ad ce ∧ (∀ j, j < base → ad j = ad0 j) ∧ (∀ j, j < base → j ≠ q → ce j = ce0 j) ∧ (ce q).1 = kd ∧ (ce q).2.2.2.2.1 = ln ∧ (∀ j, j < i → (ce q).2.2.2.2.2 j = some (ad (base + j * st))) ∧ ∀ j, j < i * st → ce (base + j) = cf ad j
section
variable {C : Nat → Nat} {σ s t : St} {base q st i kd ln : Nat} {ad0 ad ad' : Nat → Nat} {ce0 ce ce' : Nat → Cell} {cf : (Nat → Nat) → Nat → Cell}
theorem LQ.ini (h : HVC C σ base ad0 ce0) (hk : (ce0 q).1 = kd) (hl : (ce0 q).2.2.2.2.1 = ln) : LQ C σ base q st 0 kd ln ad0 ce0 cf := ⟨ad0, ce0, by rw [Nat.zero_mul]; exact h, fun _ _ => rfl, fun _ _ _ => rfl, hk, hl, fun j hj => absurd hj (Nat.not_lt_zero j), fun j hj => absurd hj (by omega)⟩
theorem LQ.step (hq : q < base) (hst : 0 < st) (h1 : ∀ j, j < base → ad j = ad0 j) (h2 : ∀ j, j < base → j ≠ q → ce j = ce0 j) (h3 : (ce q).1 = kd) (h4 : (ce q).2.2.2.2.1 = ln) (h5 : ∀ j, j < i → (ce q).2.2.2.2.2 j = some (ad (base + j * st))) (h6 : ∀ j, j < i * st → ce (base + j) = cf ad j) (hv : HVC C s (base + i * st + st) ad' ce') (ha : ∀ j, j < base + i * st → ad' j = ad j) (hc : ∀ j, j < base + i * st → ce' j = ce j) (hn : ∀ t, t < st → ce' (base + i * st + t) = cf ad' (i * st + t)) (hcf : ∀ j, j < i * st → cf ad' j = cf ad j) (e : t = setQ (ad0 q) i (some (ad' (base + i * st))) s) : LQ C t base q st (i + 1) kd ln ad0 ce0 cf := by
  have aq : ad' q = ad0 q := (ha q (by omega)).trans (h1 q hq)
  have hv2 := hv.setQ (i := q) (by omega) aq e
  have em : (i + 1) * st = i * st + st := Nat.succ_mul i st
  have cq : u1 q (cQ i (some (ad' (base + i * st))) (ce' q)) ce' q = cQ i (some (ad' (base + i * st))) (ce' q) := if_pos rfl
  have cn : ∀ j, j ≠ q → u1 q (cQ i (some (ad' (base + i * st))) (ce' q)) ce' j = ce' j := fun j hj => if_neg hj
  refine ⟨ad', _, by rw [em, ← Nat.add_assoc]; exact hv2, fun j hj => (ha j (by omega)).trans (h1 j hj), fun j hj hne => ?_, ?_, ?_, fun j hj => ?_, fun j hj => ?_⟩
  · rw [cn j hne, hc j (by omega)]; exact h2 j hj hne
  · rw [cq]; show (ce' q).1 = kd; rw [hc q (by omega)]; exact h3
  · rw [cq]; show (ce' q).2.2.2.2.1 = ln; rw [hc q (by omega)]; exact h4
  · rw [cq]
    show (if j = i then some (ad' (base + i * st)) else (ce' q).2.2.2.2.2 j) = some (ad' (base + j * st))
    by_cases ej : j = i
    · rw [if_pos ej, ej]
    · have hji : j < i := by omega
      have : j * st < i * st := Nat.mul_lt_mul_of_pos_right hji hst
      rw [if_neg ej, hc q (by omega), h5 j hji, ha (base + j * st) (by omega)]
  · rw [em] at hj
    rw [cn (base + j) (by omega)]
    by_cases ej : j < i * st
    · rw [hc (base + j) (by omega), h6 j ej, hcf j ej]
    · have := hn (j - i * st) (by omega)
      rw [show base + i * st + (j - i * st) = base + j by omega, show i * st + (j - i * st) = j by omega] at this
      exact this
theorem u1_s {α : Type} (a : Nat) (v : α) (g : Nat → α) : u1 a v g a = v := if_pos rfl
theorem u1_n {α : Type} {a b : Nat} (v : α) (g : Nat → α) (h : b ≠ a) : u1 a v g b = g b := if_neg h
end
def cS9 (_ : Nat → Nat) (_ : Nat) : Cell := cI 901 100 (cO 10)
def cS3 (_ : Nat → Nat) (j : Nat) : Cell := cI 300 (nI j) (cI 305 1 (cI 303 1 (cI 302 1 (cO 4))))
def cS8 (z : Nat) (ad : Nat → Nat) (j : Nat) : Cell := if j % 2 = 0 then cI 803 (-1) (cI 801 (-1) (cR 800 (some (ad (57 + j + 1))) (cO 9))) else cR 1301 (some z) (cI 1300 0 (cO 30))
/-- one cell more, what is written into it -/
theorem hv_one9 {C : Nat → Nat} {σ s t : St} {N : Nat} {ad : Nat → Nat} {ce : Nat → Cell} (h : HVC C σ N ad ce) {a : Nat} (z : sK σ a = 0) (e : s = newO 10 a σ) (et : t = setI 901 a 100 s) : ∃ ad' ce', HVC C t (N + 1) ad' ce' ∧ (∀ j, j < N → ad' j = ad j) ∧ (∀ j, j < N → ce' j = ce j) ∧ ad' N = a ∧ ce' N = cI 901 100 (cO 10) := by
  have v1 := h.newO z (by decide) e
  have v2 := v1.setI (i := N) (by omega) (u1_s N a ad) et
  refine ⟨_, _, v2, fun j hj => u1_n _ _ (by omega), fun j hj => ?_, u1_s _ _ _, ?_⟩
  · rw [u1_n _ _ (by omega), u1_n _ _ (by omega)]
  · rw [u1_s, u1_s]
theorem hv_one3 {C : Nat → Nat} {σ s t t2 t3 t4 : St} {N : Nat} {ad : Nat → Nat} {ce : Nat → Cell} (h : HVC C σ N ad ce) {a : Nat} {x : Int32} (z : sK σ a = 0) (e : s = newO 4 a σ) (et : t = setI 302 a 1 s) (et2 : t2 = setI 303 a 1 t) (et3 : t3 = setI 305 a 1 t2) (et4 : t4 = setI 300 a x t3) : ∃ ad' ce', HVC C t4 (N + 1) ad' ce' ∧ (∀ j, j < N → ad' j = ad j) ∧ (∀ j, j < N → ce' j = ce j) ∧ ad' N = a ∧ ce' N = cI 300 x (cI 305 1 (cI 303 1 (cI 302 1 (cO 4)))) := by
  have v1 := h.newO z (by decide) e
  have v2 := (((v1.setI (i := N) (by omega) (u1_s N a ad) et).setI (i := N) (by omega) (u1_s N a ad) et2).setI (i := N) (by omega) (u1_s N a ad) et3).setI (i := N) (by omega) (u1_s N a ad) et4
  refine ⟨_, _, v2, fun j hj => u1_n _ _ (by omega), fun j hj => ?_, u1_s _ _ _, ?_⟩
  · rw [u1_n _ _ (by omega), u1_n _ _ (by omega), u1_n _ _ (by omega), u1_n _ _ (by omega), u1_n _ _ (by omega)]
  · rw [u1_s, u1_s, u1_s, u1_s, u1_s]
theorem hv_one8 {C : Nat → Nat} {σ s s2 t t2 t3 t4 : St} {N d0 : Nat} {ad : Nat → Nat} {ce : Nat → Cell} (h : HVC C σ N ad ce) {a a2 : Nat} (z : sK σ a = 0) (e : s = newO 9 a σ) (z2 : sK s a2 = 0) (e2 : s2 = newO 30 a2 s) (et : t = setR 1301 a2 (some d0) (setI 1300 a2 0 s2)) (et2 : t2 = setR 800 a (some a2) t) (et3 : t3 = setI 801 a (-1) t2) (et4 : t4 = setI 803 a (-1) t3) : ∃ ad' ce', HVC C t4 (N + 1 + 1) ad' ce' ∧ (∀ j, j < N → ad' j = ad j) ∧ (∀ j, j < N → ce' j = ce j) ∧ ad' N = a ∧ ad' (N + 1) = a2 ∧ ce' N = cI 803 (-1) (cI 801 (-1) (cR 800 (some a2) (cO 9))) ∧ ce' (N + 1) = cR 1301 (some d0) (cI 1300 0 (cO 30)) := by
  have v1 := (h.newO z (by decide) e).newO z2 (by decide) e2
  have a1 : u1 (N + 1) a2 (u1 N a ad) N = a := (u1_n _ _ (by omega)).trans (u1_s _ _ _)
  have a3 : u1 (N + 1) a2 (u1 N a ad) (N + 1) = a2 := u1_s _ _ _
  have v2 := (v1.setI (i := N + 1) (f := 1300) (v := 0) (by omega) a3 rfl).setR (i := N + 1) (by omega) a3 et
  have v3 := ((v2.setR (i := N) (by omega) a1 et2).setI (i := N) (by omega) a1 et3).setI (i := N) (by omega) a1 et4
  refine ⟨_, _, v3, fun j hj => (u1_n _ _ (by omega)).trans (u1_n _ _ (by omega)), fun j hj => ?_, a1, a3, ?_, ?_⟩
  · rw [u1_n _ _ (show j ≠ N by omega), u1_n _ _ (show j ≠ N by omega), u1_n _ _ (show j ≠ N by omega), u1_n _ _ (show j ≠ N + 1 by omega), u1_n _ _ (show j ≠ N + 1 by omega), u1_n _ _ (show j ≠ N + 1 by omega), u1_n _ _ (show j ≠ N by omega)]
  · rw [u1_s N, u1_s N, u1_s N, u1_n _ _ (show N ≠ N + 1 by omega), u1_n _ _ (show N ≠ N + 1 by omega), u1_n _ _ (show N ≠ N + 1 by omega), u1_s N]
  · rw [u1_n _ _ (show N + 1 ≠ N by omega), u1_n _ _ (show N + 1 ≠ N by omega), u1_n _ _ (show N + 1 ≠ N by omega), u1_s, u1_s, u1_s]
theorem q_rob {C : Nat → Nat} {ad0 : Nat → Nat} {ce0 : Nat → Cell} {Q : St → Prop} (hC : ∀ b, C b % 2 = 1 ↔ b = ad0 0) (h1 : (ce0 1).2.2.1 1102 = some (ad0 4)) (hQ : ∀ s, LQ C s 57 4 2 3 26 3 ad0 ce0 (cS8 (ad0 0)) → Q s) : ∀ d i, i + d = 3 → ∀ σ, LQ C σ 57 4 2 i 26 3 ad0 ce0 (cS8 (ad0 0)) → w_X11_init_230 Q (d + 1) (ad0 1) (nI i) σ (2 * d) (7 * d)
  | 0, i, hd, σ, h => by
    have e : i = 3 := by omega
    subst e
    obtain ⟨ad, ce, hv, b1, b2, b3, b4, b5, b6⟩ := id h
    unfold w_X11_init_230
    refine fun o eo => ⟨ad0 4, ?_, fun _ => hQ σ h, fun q => absurd ?_ q⟩
    · rw [eo, ← b1 1 (by decide), hv.r (by omega), b2 1 (by decide) (by decide), h1]
    · rw [← b1 4 (by decide), hv.l (by omega), b4]; exact Int32.le_refl _
  | d + 1, i, hd, σ, h => by
    obtain ⟨ad, ce, hv, b1, b2, b3, b4, b5, b6⟩ := h
    have hi : i < 3 := by omega
    have hc : (nI i).toNatClampNeg = i := nI_clamp (by omega)
    have rf : sR σ 1102 (ad0 1) = some (ad0 4) := by rw [← b1 1 (by decide), hv.r (by omega), b2 1 (by decide) (by decide), h1]
    have ln : sL σ (ad0 4) = 3 := by rw [← b1 4 (by decide), hv.l (by omega), b4]
    unfold w_X11_init_230
    refine fun o eo => ⟨ad0 4, eo.trans rf, fun q => absurd q ?_, fun _ o2 eo2 => ⟨2 * d + 1, 7 * d + 3, by omega, by omega, fun a s z e => ⟨1, 3, 2 * d, 7 * d, by omega, by omega, ?_⟩⟩⟩
    · rw [ln]; exact nI_ge hi (by decide)
    unfold w_X8_init
    refine ⟨0, 0, rfl, rfl, fun a2 s2 z2 e2 => ?_⟩
    have cc : sC s2 = C := by rw [e2, e]; exact hv.2.2.2
    refine q_lst (by rw [cc]; exact hC) fun t et t2 et2 t3 et3 t4 et4 => ?_
    obtain ⟨ad', ce', v3, c1, c2, c3, c4, c5, c6⟩ := hv_one8 hv z e z2 e2 et et2 et3 et4
    have l4 : sL t4 (ad0 4) = 3 := by
      rw [← b1 4 (by decide), ← c1 4 (by omega), v3.l (by omega), c2 4 (by omega), b4]
    refine ⟨ad0 4, eo2.trans rf, by rw [l4]; exact vp_in_nI hi (by decide), fun s5 e5 => ?_⟩
    rw [hc] at e5
    rw [nI_1]
    refine q_rob hC h1 hQ d (i + 1) (by omega) s5 (LQ.step (by decide) (by decide) b1 b2 b3 b4 b5 b6 v3 c1 c2 (fun u hu => ?_) (fun j hj => ?_) (by rw [c3]; exact e5))
    · have hu2 : u = 0 ∨ u = 1 := by omega
      rcases hu2 with r | r
      · subst r
        rw [Nat.add_zero, Nat.add_zero, c5]
        unfold cS8
        rw [if_pos (by omega), show 57 + i * 2 + 1 = 57 + i * 2 + 1 from rfl, c4]
      · subst r
        rw [c6]
        unfold cS8
        rw [if_neg (by omega)]
    · unfold cS8
      by_cases r : j % 2 = 0
      · rw [if_pos r, if_pos r, c1 (57 + j + 1) (by omega)]
      · rw [if_neg r, if_neg r]
theorem q_itm {C : Nat → Nat} {ad0 : Nat → Nat} {ce0 : Nat → Cell} {Q : St → Prop} (h1 : (ce0 1).2.2.1 1101 = some (ad0 3)) (hQ : ∀ s, LQ C s 51 3 1 6 25 6 ad0 ce0 cS3 → ∃ f, w_X11_init_230 Q f (ad0 1) 0 s 6 21) : ∀ d i, i + d = 6 → ∀ σ, LQ C σ 51 3 1 i 25 6 ad0 ce0 cS3 → w_X11_init_199 Q (d + 1) (ad0 1) (nI i) σ (6 + d) (21 + 6 * d)
  | 0, i, hd, σ, h => by
    have e : i = 6 := by omega
    subst e
    obtain ⟨ad, ce, hv, b1, b2, b3, b4, b5, b6⟩ := id h
    unfold w_X11_init_199
    refine fun o eo => ⟨ad0 3, ?_, fun _ => hQ σ h, fun q => absurd ?_ q⟩
    · rw [eo, ← b1 1 (by decide), hv.r (by omega), b2 1 (by decide) (by decide), h1]
    · rw [← b1 3 (by decide), hv.l (by omega), b4]; exact Int32.le_refl _
  | d + 1, i, hd, σ, h => by
    obtain ⟨ad, ce, hv, b1, b2, b3, b4, b5, b6⟩ := h
    have hi : i < 6 := by omega
    have hc : (nI i).toNatClampNeg = i := nI_clamp (by omega)
    have rf : sR σ 1101 (ad0 1) = some (ad0 3) := by rw [← b1 1 (by decide), hv.r (by omega), b2 1 (by decide) (by decide), h1]
    have ln : sL σ (ad0 3) = 6 := by rw [← b1 3 (by decide), hv.l (by omega), b4]
    unfold w_X11_init_199
    refine fun o eo => ⟨ad0 3, eo.trans rf, fun q => absurd q ?_, fun _ o2 eo2 => ⟨6 + d, 21 + 6 * d, by omega, by omega, fun a s z e => ?_⟩⟩
    · rw [ln]; exact nI_ge hi (by decide)
    unfold w_X3_init
    intro t et t2 et2 t3 et3 t4 et4
    obtain ⟨ad', ce', v3, c1, c2, c3, c5⟩ := hv_one3 hv z e et et2 et3 et4
    have l4 : sL t4 (ad0 3) = 6 := by
      rw [← b1 3 (by decide), ← c1 3 (by omega), v3.l (by omega), c2 3 (by omega), b4]
    refine ⟨ad0 3, eo2.trans rf, by rw [l4]; exact vp_in_nI hi (by decide), fun s5 e5 => ?_⟩
    rw [hc] at e5
    rw [nI_1]
    refine q_itm h1 hQ d (i + 1) (by omega) s5 (LQ.step (by decide) (by decide) b1 b2 b3 b4 b5 b6 v3 c1 c2 (fun u hu => ?_) (fun j hj => rfl) (by rw [c3]; exact e5))
    · have r : u = 0 := by omega
      subst r
      rw [Nat.add_zero, Nat.add_zero, c5, Nat.mul_one]
      rfl
theorem q_slo {C : Nat → Nat} {ad0 : Nat → Nat} {ce0 : Nat → Cell} {Q : St → Prop} (h1 : (ce0 1).2.2.1 1100 = some (ad0 2)) (hQ : ∀ s, LQ C s 33 2 1 18 24 18 ad0 ce0 cS9 → ∃ f, w_X11_init_199 Q f (ad0 1) 0 s 12 57) : ∀ d i, i + d = 18 → ∀ σ, LQ C σ 33 2 1 i 24 18 ad0 ce0 cS9 → w_X11_init_169 Q (d + 1) (ad0 1) (nI i) σ (12 + d) (57 + 5 * d)
  | 0, i, hd, σ, h => by
    have e : i = 18 := by omega
    subst e
    obtain ⟨ad, ce, hv, b1, b2, b3, b4, b5, b6⟩ := id h
    unfold w_X11_init_169
    refine fun o eo => ⟨ad0 2, ?_, fun _ => hQ σ h, fun q => absurd ?_ q⟩
    · rw [eo, ← b1 1 (by decide), hv.r (by omega), b2 1 (by decide) (by decide), h1]
    · rw [← b1 2 (by decide), hv.l (by omega), b4]; exact Int32.le_refl _
  | d + 1, i, hd, σ, h => by
    obtain ⟨ad, ce, hv, b1, b2, b3, b4, b5, b6⟩ := h
    have hi : i < 18 := by omega
    have hc : (nI i).toNatClampNeg = i := nI_clamp (by omega)
    have rf : sR σ 1100 (ad0 1) = some (ad0 2) := by rw [← b1 1 (by decide), hv.r (by omega), b2 1 (by decide) (by decide), h1]
    have ln : sL σ (ad0 2) = 18 := by rw [← b1 2 (by decide), hv.l (by omega), b4]
    unfold w_X11_init_169
    refine fun o eo => ⟨ad0 2, eo.trans rf, fun q => absurd q ?_, fun _ o2 eo2 => ⟨12 + d, 57 + 5 * d, by omega, by omega, fun a s z e => ?_⟩⟩
    · rw [ln]; exact nI_ge hi (by decide)
    unfold w_X9_init
    intro t4 et4
    obtain ⟨ad', ce', v3, c1, c2, c3, c5⟩ := hv_one9 hv z e et4
    have l4 : sL t4 (ad0 2) = 18 := by
      rw [← b1 2 (by decide), ← c1 2 (by omega), v3.l (by omega), c2 2 (by omega), b4]
    refine ⟨ad0 2, eo2.trans rf, by rw [l4]; exact vp_in_nI hi (by decide), fun s5 e5 => ?_⟩
    rw [hc] at e5
    rw [nI_1]
    refine q_slo h1 hQ d (i + 1) (by omega) s5 (LQ.step (by decide) (by decide) b1 b2 b3 b4 b5 b6 v3 c1 c2 (fun u hu => ?_) (fun j hj => rfl) (by rw [c3]; exact e5))
    · have r : u = 0 := by omega
      subst r
      rw [Nat.add_zero, c5]
      rfl
/-- what the three arrays hold -/
def HE (ad : Nat → Nat) (ce : Nat → Cell) : Prop := (∀ j, j < 18 → (ce 2).2.2.2.2.2 j = some (ad (33 + j))) ∧ (∀ j, j < 6 → (ce 3).2.2.2.2.2 j = some (ad (51 + j))) ∧ (∀ j, j < 3 → (ce 4).2.2.2.2.2 j = some (ad (57 + j * 2))) ∧ (∀ j, j < 18 → ce (33 + j) = cI 901 100 (cO 10)) ∧ (∀ j, j < 6 → ce (51 + j) = cI 300 (nI j) (cI 305 1 (cI 303 1 (cI 302 1 (cO 4))))) ∧ (∀ j, j < 3 → ce (57 + j * 2) = cI 803 (-1) (cI 801 (-1) (cR 800 (some (ad (57 + j * 2 + 1))) (cO 9)))) ∧ ∀ j, j < 3 → ce (57 + j * 2 + 1) = cR 1301 (some (ad 0)) (cI 1300 0 (cO 30))
theorem q_cls {C : Nat → Nat} {d0 a0 : Nat} {σ : St} {Q : St → Prop} (h1 : HVC C σ 2 (u1 1 a0 fun _ => d0) (u1 1 (cO 12) fun _ => cO 50)) (hC : ∀ b, C b % 2 = 1 ↔ b = d0) (hQ : ∀ s ad ce, HVC C s 63 ad ce → HA ad ce → HB ce → HE ad ce → ad 0 = d0 → ad 1 = a0 → Q s) : w_X11_init 61 3276 a0 σ Q := by
  refine q_head h1 hC fun s ad ce hv hA hB e0 e1 => ?_
  subst e0; subst e1
  have r1 := hA.2.2.2.2.1
  have r2 := hA.2.2.2.2.2.1
  have r3 := hA.2.2.2.2.2.2.1
  refine ⟨18 + 1, q_slo (ad0 := ad) (ce0 := ce) r1 (fun s2 h2 => ?_) 18 0 rfl s (LQ.ini hv hB.1 hB.2.1)⟩
  obtain ⟨ad2, ce2, hv2, b1, b2, b3, b4, b5, b6⟩ := h2
  have k1 : ce2 1 = ce 1 := b2 1 (by decide) (by decide)
  refine ⟨6 + 1, ?_⟩
  rw [← b1 1 (by decide)]
  refine q_itm (C := C) (ad0 := ad2) (ce0 := ce2) (by rw [k1, r2, b1 3 (by decide)]) (fun s3 h3 => ?_) 6 0 rfl s2 (LQ.ini hv2 (by rw [b2 3 (by decide) (by decide)]; exact hB.2.2.1) (by rw [b2 3 (by decide) (by decide)]; exact hB.2.2.2.1))
  obtain ⟨ad3, ce3, hv3, c1, c2, c3, c4, c5, c6⟩ := h3
  have k2 : ce3 1 = ce 1 := (c2 1 (by decide) (by decide)).trans k1
  refine ⟨3 + 1, ?_⟩
  have a30 : ad3 0 = ad 0 := (c1 0 (by decide)).trans (b1 0 (by decide))
  rw [← c1 1 (by decide)]
  refine q_rob (C := C) (ad0 := ad3) (ce0 := ce3) (by rw [a30]; exact hC) (by rw [k2, r3, c1 4 (by decide), b1 4 (by decide)]) (fun s4 h4 => ?_) 3 0 rfl s3 (LQ.ini hv3 (by rw [c2 4 (by decide) (by decide), b2 4 (by decide) (by decide)]; exact hB.2.2.2.2.1) (by rw [c2 4 (by decide) (by decide), b2 4 (by decide) (by decide)]; exact hB.2.2.2.2.2))
  obtain ⟨ad4, ce4, hv4, d1, d2, d3, d4, d5, d6⟩ := h4
  have aa : ∀ j, j < 33 → ad4 j = ad j := fun j hj => (d1 j (by omega)).trans ((c1 j (by omega)).trans (b1 j hj))
  have n2 : ce4 2 = ce2 2 := (d2 2 (by decide) (by decide)).trans (c2 2 (by decide) (by decide))
  have n3 : ce4 3 = ce3 3 := d2 3 (by decide) (by decide)
  refine hQ s4 ad4 ce4 hv4 (hA.up aa fun j hj q2 q3 q4 => (d2 j (by omega) q4).trans ((c2 j (by omega) q3).trans (b2 j hj q2))) ⟨by rw [n2]; exact b3, by rw [n2]; exact b4, by rw [n3]; exact c3, by rw [n3]; exact c4, d3, d4⟩ ⟨fun j hj => ?_, fun j hj => ?_, fun j hj => ?_, fun j hj => ?_, fun j hj => ?_, fun j hj => ?_, fun j hj => ?_⟩ (aa 0 (by decide)) (aa 1 (by decide))
  · rw [n2, b5 j hj, d1 _ (by omega), c1 _ (by omega), Nat.mul_one]
  · rw [n3, c5 j hj, d1 _ (by omega), Nat.mul_one]
  · exact d5 j hj
  · rw [d2 _ (by omega) (by omega), c2 _ (by omega) (by omega)]; exact b6 j (by omega)
  · rw [d2 _ (by omega) (by omega)]; exact c6 j (by omega)
  · rw [d6 (j * 2) (by omega)]
    unfold cS8
    rw [if_pos (by omega)]
  · rw [show 57 + j * 2 + 1 = 57 + (j * 2 + 1) from rfl, d6 (j * 2 + 1) (by omega)]
    unfold cS8
    rw [if_neg (by omega), d1 0 (by decide)]
