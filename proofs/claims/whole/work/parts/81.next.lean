/-! the reference's next lot -/
section
variable {B k : Nat} {S : Ss} {w : MS}
theorem ltE_i {e : Nat → Int32} {a b : Nat} : ltE e a b ↔ ((e a).toInt < (e b).toInt ∨ ((e a).toInt = (e b).toInt ∧ a < b)) := by
  unfold ltE; rw [Int32.toInt_inj]
def cdt (S : Ss) (i : Nat) (a : Option Nat) (l : Nat) : Prop := itS S l = i ∧ zA S 503 l = 0 ∧ ∀ q, a = some q → ltE (zA S 502) q l
def nxI (S : Ss) (i : Nat) (a : Option Nat) (s : Nat) (o : Option Nat) : Prop := (o = none → ∀ l, l < s → ¬ cdt S i a l) ∧ ∀ b, o = some b → b < s ∧ cdt S i a b ∧ ∀ l, l < s → cdt S i a l → l = b ∨ ltE (zA S 502) b l
theorem Rel.nextS (h : Rel B k S w) {i s : Nat} (hi : i < 6) (a o : Option Nat) (ha : ∀ q, a = some q → q < zN S 5) (ho : ∀ q, o = some q → q < zN S 5) (hs : s < zN S 5) (f : Nat) : (¬ cdt S i a s → g_X12_nextLot_5 (f + 1) (nI i) (fcI a) (fcI o) (nI s) w = g_X12_nextLot_5 f (nI i) (fcI a) (fcI o) (nI (s + 1)) w) ∧ (cdt S i a s → (o = none → g_X12_nextLot_5 (f + 1) (nI i) (fcI a) (fcI o) (nI s) w = g_X12_nextLot_5 f (nI i) (fcI a) (nI s) (nI (s + 1)) w) ∧ ∀ b, o = some b → g_X12_nextLot_5 (f + 1) (nI i) (fcI a) (fcI o) (nI s) w = if zA S 502 b ≤ zA S 502 s then g_X12_nextLot_5 f (nI i) (fcI a) (nI b) (nI (s + 1)) w else g_X12_nextLot_5 f (nI i) (fcI a) (nI s) (nI (s + 1)) w) := by
  have h12 := h.lo.1
  obtain ⟨-, s2, s3, -, -, s6, s7⟩ := h.lo.2.2.2.1 s hs
  have hlt : ¬ nI (zN S 5) ≤ nI s := nI_ge hs (show zN S 5 < 2 ^ 31 by omega)
  have g16 : s < mL 16 := Nat.lt_of_lt_of_le hs h12
  have g17 : s < mL 17 := Nat.lt_of_lt_of_le hs h12
  have g18 : s < mL 18 := Nat.lt_of_lt_of_le hs h12
  have c := nI_clamp (show s < 2 ^ 31 by omega)
  have eI := nI_eq (show itS S s < 2 ^ 31 by omega) (show i < 2 ^ 31 by omega)
  have p62 : ∀ x, g_X12_nextLot_62 (g_X12_nextLot_5 f) (nI i) (fcI a) (fcI o) (nI s) x w = (if itS S s = i ∧ zA S 503 s = 0 ∧ ¬ x = 0 then g_X12_nextLot_95 (g_X12_nextLot_5 f) (nI i) (fcI a) (fcI o) (nI s) 1 w else g_X12_nextLot_5 f (nI i) (fcI a) (fcI o) (nI (s + 1)) w) := fun x => by
    simp only [g_X12_nextLot_62, g_X12_nextLot_94, kif, r_gb, gbn_s, r_grd, r_gbo, r_gret, r_gst, k_isIn, k_isSlot, k_isItem, k_isGroup, k_isRobot, k_are, k_holds0, k_holds1, k_holds2, k_holds3, k_bit, k_less, bI_t, bI_f, i10, i00, i01, i11, i20, i30, ↓reduceIte, r_gnI g16 (show mL 16 < 2 ^ 31 by decide), r_gnI g18 (show mL 18 < 2 ^ 31 by decide), c, s7, s3, eI]
    by_cases q1 : itS S s = i
    · by_cases q2 : zA S 503 s = 0
      · by_cases q3 : x = 0
        · rw [if_pos q1, if_pos q2, if_pos q3, if_neg (fun r => r.2.2 q3)]
          simp only [g_X12_nextLot_95, kif, r_gb, gbn_s, r_grd, r_gbo, r_gret, r_gst, k_isIn, k_isSlot, k_isItem, k_isGroup, k_isRobot, k_are, k_holds0, k_holds1, k_holds2, k_holds3, k_bit, k_less, bI_t, bI_f, i10, i00, i01, i11, i20, i30, ↓reduceIte, nI_1]
        · rw [if_pos q1, if_pos q2, if_neg q3, if_pos ⟨q1, q2, q3⟩]
      · rw [if_pos q1, if_neg q2, if_neg (fun r => q2 r.2.1)]
        simp only [g_X12_nextLot_95, kif, r_gb, gbn_s, r_grd, r_gbo, r_gret, r_gst, k_isIn, k_isSlot, k_isItem, k_isGroup, k_isRobot, k_are, k_holds0, k_holds1, k_holds2, k_holds3, k_bit, k_less, bI_t, bI_f, i10, i00, i01, i11, i20, i30, ↓reduceIte, nI_1]
    · rw [if_neg q1, if_neg (fun r => q1 r.1)]
      simp only [g_X12_nextLot_95, kif, r_gb, gbn_s, r_grd, r_gbo, r_gret, r_gst, k_isIn, k_isSlot, k_isItem, k_isGroup, k_isRobot, k_are, k_holds0, k_holds1, k_holds2, k_holds3, k_bit, k_less, bI_t, bI_f, i10, i00, i01, i11, i20, i30, ↓reduceIte, nI_1]
  have p5 : ∃ x : Int32, g_X12_nextLot_5 (f + 1) (nI i) (fcI a) (fcI o) (nI s) w = g_X12_nextLot_62 (g_X12_nextLot_5 f) (nI i) (fcI a) (fcI o) (nI s) x w ∧ (x = 0 ↔ ¬ ∀ q, a = some q → ltE (zA S 502) q s) := by
    cases a with
    | none =>
      refine ⟨1, ?_, by simp⟩
      have z : fcI none = (-1 : Int32) := rfl
      simp only [g_X12_nextLot_5, kif, r_gb, gbn_s, r_grd, r_gbo, r_gret, r_gst, k_isIn, k_isSlot, k_isItem, k_isGroup, k_isRobot, k_are, k_holds0, k_holds1, k_holds2, k_holds3, k_bit, k_less, bI_t, bI_f, i10, i00, i01, i11, i20, i30, ↓reduceIte, h.lo.2.2.1, hlt, z]
    | some q =>
      have hq := ha q rfl
      obtain ⟨-, t2, -⟩ := h.lo.2.2.2.1 q hq
      have gq : q < mL 17 := Nat.lt_of_lt_of_le hq h12
      have cq := nI_clamp (show q < 2 ^ 31 by omega)
      have z : fcI (some q) = nI q := rfl
      have hm1 : ¬ nI q = -1 := fun e => nI_ne1 q (by omega) e.symm
      have hle : nI s ≤ nI q ↔ s ≤ q := by
        rw [Int32.le_iff_toInt_le, nI_toInt (by omega), nI_toInt (by omega)]; omega
      have hcd : (∀ q', some q = some q' → ltE (zA S 502) q' s) ↔ ltE (zA S 502) q s := ⟨fun r => r q rfl, fun r q' e => Option.some.inj e ▸ r⟩
      rw [z]
      by_cases q1 : zA S 502 q < zA S 502 s
      · refine ⟨1, ?_, ?_⟩
        · simp only [g_X12_nextLot_5, kif, r_gb, gbn_s, r_grd, r_gbo, r_gret, r_gst, k_isIn, k_isSlot, k_isItem, k_isGroup, k_isRobot, k_are, k_holds0, k_holds1, k_holds2, k_holds3, k_bit, k_less, bI_t, bI_f, i10, i00, i01, i11, i20, i30, ↓reduceIte, h.lo.2.2.1, hlt, hm1, r_gnI g17 (show mL 17 < 2 ^ 31 by decide), r_gnI gq (show mL 17 < 2 ^ 31 by decide), c, cq, s2, t2, q1]
        · rw [hcd, ltE_i]
          have := Int32.lt_iff_toInt_lt.mp q1
          simp [this]
      · by_cases q2 : zA S 502 s = zA S 502 q
        · by_cases q3 : s ≤ q
          · refine ⟨0, ?_, ?_⟩
            · have q3' := hle.mpr q3
              simp only [g_X12_nextLot_5, g_X12_nextLot_61, kif, r_gb, gbn_s, r_grd, r_gbo, r_gret, r_gst, k_isIn, k_isSlot, k_isItem, k_isGroup, k_isRobot, k_are, k_holds0, k_holds1, k_holds2, k_holds3, k_bit, k_less, bI_t, bI_f, i10, i00, i01, i11, i20, i30, ↓reduceIte, h.lo.2.2.1, hlt, hm1, r_gnI g17 (show mL 17 < 2 ^ 31 by decide), r_gnI gq (show mL 17 < 2 ^ 31 by decide), c, cq, s2, t2, q1, if_pos q2, q3']
            · rw [hcd, ltE_i]
              have := mt Int32.lt_iff_toInt_lt.mpr q1
              simp only [true_iff]
              omega
          · refine ⟨1, ?_, ?_⟩
            · have q3' := mt hle.mp q3
              simp only [g_X12_nextLot_5, g_X12_nextLot_61, kif, r_gb, gbn_s, r_grd, r_gbo, r_gret, r_gst, k_isIn, k_isSlot, k_isItem, k_isGroup, k_isRobot, k_are, k_holds0, k_holds1, k_holds2, k_holds3, k_bit, k_less, bI_t, bI_f, i10, i00, i01, i11, i20, i30, ↓reduceIte, h.lo.2.2.1, hlt, hm1, r_gnI g17 (show mL 17 < 2 ^ 31 by decide), r_gnI gq (show mL 17 < 2 ^ 31 by decide), c, cq, s2, t2, q1, if_pos q2, q3']
            · rw [hcd, ltE_i, q2]
              have : ((zA S 502 q).toInt < (zA S 502 q).toInt ∨ (zA S 502 q).toInt = (zA S 502 q).toInt ∧ q < s) := Or.inr ⟨rfl, by omega⟩
              exact ⟨fun r => absurd r (by decide), fun r => absurd this r⟩
        · refine ⟨0, ?_, ?_⟩
          · simp only [g_X12_nextLot_5, g_X12_nextLot_61, kif, r_gb, gbn_s, r_grd, r_gbo, r_gret, r_gst, k_isIn, k_isSlot, k_isItem, k_isGroup, k_isRobot, k_are, k_holds0, k_holds1, k_holds2, k_holds3, k_bit, k_less, bI_t, bI_f, i10, i00, i01, i11, i20, i30, ↓reduceIte, h.lo.2.2.1, hlt, hm1, r_gnI g17 (show mL 17 < 2 ^ 31 by decide), r_gnI gq (show mL 17 < 2 ^ 31 by decide), c, cq, s2, t2, q1, if_neg q2]
          · rw [hcd, ltE_i]
            have := mt Int32.lt_iff_toInt_lt.mpr q1
            have e2 : ¬ (zA S 502 s).toInt = (zA S 502 q).toInt := fun r => q2 (Int32.toInt_inj.mp r)
            simp only [true_iff]
            omega
  obtain ⟨x, x1, x2⟩ := p5
  rw [x1, p62]
  refine ⟨fun q => ?_, fun q => ?_⟩
  · rw [if_neg]
    rintro ⟨r1, r2, r3⟩
    exact q ⟨r1, r2, Classical.byContradiction fun r => r3 (x2.mpr r)⟩
  · obtain ⟨q1, q2, q3⟩ := q
    have hx : ¬ x = 0 := fun r => (x2.mp r) q3
    rw [if_pos ⟨q1, q2, hx⟩]
    refine ⟨fun e => ?_, fun b e => ?_⟩
    · subst e
      have z : fcI none = (-1 : Int32) := rfl
      simp only [g_X12_nextLot_95, kif, r_gb, gbn_s, r_grd, r_gbo, r_gret, r_gst, k_isIn, k_isSlot, k_isItem, k_isGroup, k_isRobot, k_are, k_holds0, k_holds1, k_holds2, k_holds3, k_bit, k_less, bI_t, bI_f, i10, i00, i01, i11, i20, i30, ↓reduceIte, z, nI_1]
    · subst e
      have hb := ho b rfl
      obtain ⟨-, t2, -⟩ := h.lo.2.2.2.1 b hb
      have gb : b < mL 17 := Nat.lt_of_lt_of_le hb h12
      have z : fcI (some b) = nI b := rfl
      have hm1 : ¬ nI b = -1 := fun e => nI_ne1 b (by omega) e.symm
      simp only [g_X12_nextLot_95, kif, r_gb, gbn_s, r_grd, r_gbo, r_gret, r_gst, k_isIn, k_isSlot, k_isItem, k_isGroup, k_isRobot, k_are, k_holds0, k_holds1, k_holds2, k_holds3, k_bit, k_less, bI_t, bI_f, i10, i00, i01, i11, i20, i30, ↓reduceIte, z, hm1, r_gnI g17 (show mL 17 < 2 ^ 31 by decide), r_gnI gb (show mL 17 < 2 ^ 31 by decide), c, nI_clamp (show b < 2 ^ 31 by omega), s2, t2, nI_1]
end
