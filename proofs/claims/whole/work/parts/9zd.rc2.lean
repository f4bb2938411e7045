/-! the class's first state: fields, lists, tables -/
section
variable {C : Nat → Nat} {σ : St} {ad : Nat → Nat} {ce : Nat → Cell}
theorem rc_i (hv : HVC C σ 63 ad ce) (hA : HA ad ce) (hE : HE ad ce) : RCi (s0D ad) σ S0 := by
  unfold HA at hA
  obtain ⟨A0, A1, A2, A3, A4, A5, A6, A7, A8, A9, A10, A11, A12, A13, A14, A15, A16, A17, A18, A19, A20, A21, A22, A23, A24, A25, A26, A27, A28, A29, A30, A31, A32, A33, A34, A35, A36, A37, A38⟩ := hA
  obtain ⟨E1, E2, E3, E4, E5, E6, E7⟩ := hE
  intro f c i hc hf hi
  rw [(s0_i hi hc).1, hv.i (s0_i (ad := ad) hi hc).2]
  rcases s0_c hi hc with ⟨rfl, rfl⟩ | ⟨rfl, rfl⟩ | ⟨rfl, h⟩ | ⟨rfl, h⟩ | ⟨rfl, h⟩
  · show (ce 11).2.1 f = s0A f 0
    rw [A37 f]
    unfold s0A
    split <;> first | rfl | omega
  · show (ce 1).2.1 f = s0A f 0
    rw [A3 f]
    unfold s0A
    split <;> first | rfl | omega
  · show (ce (33 + i)).2.1 f = s0A f i
    rw [E4 i h]
    show (if f = 901 then (100 : Int32) else 0) = s0A f i
    by_cases r : f = 901
    · rw [if_pos r, r]; rfl
    · rw [if_neg r]
      unfold s0A
      split <;> first | rfl | omega
  · show (ce (51 + i)).2.1 f = s0A f i
    rw [E5 i h]
    show (if f = 300 then nI i else if f = 305 then (1 : Int32) else if f = 303 then 1 else if f = 302 then 1 else 0) = s0A f i
    by_cases r0 : f = 300
    · rw [if_pos r0, r0]; rfl
    rw [if_neg r0]
    by_cases r1 : f = 305
    · rw [if_pos r1, r1]; rfl
    rw [if_neg r1]
    by_cases r2 : f = 303
    · rw [if_pos r2, r2]; rfl
    rw [if_neg r2]
    by_cases r3 : f = 302
    · rw [if_pos r3, r3]; rfl
    rw [if_neg r3]
    unfold s0A
    split <;> first | rfl | omega
  · show (ce (57 + i * 2)).2.1 f = s0A f i
    rw [E6 i h]
    show (if f = 803 then (-1 : Int32) else if f = 801 then -1 else 0) = s0A f i
    by_cases r0 : f = 803
    · rw [if_pos r0, r0]; rfl
    rw [if_neg r0]
    by_cases r1 : f = 801
    · rw [if_pos r1, r1]; rfl
    rw [if_neg r1]
    unfold s0A
    split <;> first | rfl | omega
theorem rc_r (hv : HVC C σ 63 ad ce) (hE : HE ad ce) : RCr (s0D ad) σ S0 := by
  intro f c t i hf hi
  have hc := (rF_c hf).2.1
  have key : sR σ f (s0D ad c i) = none := by
    rcases s0_c hi hc with ⟨rfl, rfl⟩ | ⟨rfl, rfl⟩ | ⟨rfl, h⟩ | ⟨rfl, h⟩ | ⟨rfl, h⟩
    · exact absurd rfl (rF_c hf).2.2.2.2.1
    · exact absurd rfl (rF_c hf).2.2.2.1
    · show sR σ f (ad (33 + i)) = none
      rw [hv.r (by omega), hE.2.2.2.1 i h]
      rfl
    · show sR σ f (ad (51 + i)) = none
      rw [hv.r (by omega), hE.2.2.2.2.1 i h]
      rfl
    · show sR σ f (ad (57 + i * 2)) = none
      rw [hv.r (by omega), hE.2.2.2.2.2.1 i h]
      show (if f = 800 then _ else none) = none
      refine if_neg fun r => ?_
      subst r
      cases hf
  rw [key]
  exact ATo.nn
theorem rc_ls {l : Nat} (hv : HVC C σ 63 ad ce) (hA : HA ad ce) (hC : C (ad 0) % 2 = 1) (hl : l < 63) (h1 : (ce l).1 = 30) (h2 : (ce l).2.2.1 1301 = some (ad 0)) (h3 : (ce l).2.1 1302 = 0) : LSTe σ (ad l) (ad 0) [] := by
  have z1 : sL σ (ad 0) = 0 := (hv.l (by decide)).trans hA.2.1
  refine ⟨by rw [hv.r hl]; exact h2, by rw [hv.i hl, h3]; rfl, Nat.zero_le _, by rw [z1]; decide, fun j x h => ?_, fun _ => by rw [hv.2.2.2]; exact hC, (hv.k hl).trans h1, (hv.k (by decide)).trans hA.1⟩
  cases h
/-- the list of a field: its cell -/
def s0L (f i : Nat) : Nat := match f with
  | 1103 => 5
  | 1104 => 6
  | 1105 => 7
  | 1106 => 8
  | 1107 => 9
  | 1108 => 10
  | _ => 57 + i * 2 + 1
theorem s0_dl {f c t i : Nat} (hf : lF f c t = true) (hi : i < zN S0 (lC f)) : s0D ad (10000 + f) i = ad (s0L f i) ∧ s0L f i < 63 := by
  rcases s0_l hf hi with ⟨rfl, -, -, h⟩ | ⟨h1, h2, -, -⟩
  · exact ⟨rfl, show 57 + i * 2 + 1 < 63 by omega⟩
  · have : f = 1103 ∨ f = 1104 ∨ f = 1105 ∨ f = 1106 ∨ f = 1107 ∨ f = 1108 := by omega
    rcases this with rfl | rfl | rfl | rfl | rfl | rfl
    all_goals exact ⟨rfl, Nat.le_of_ble_eq_true rfl⟩
theorem s0_li {f c t i f' c' t' i' : Nat} (hf : lF f c t = true) (hf' : lF f' c' t' = true) (hi : i < zN S0 (lC f)) (hi' : i' < zN S0 (lC f')) (e : s0L f i = s0L f' i') : f = f' ∧ i = i' := by
  have key : ∀ g j, 1103 ≤ g → g ≤ 1108 → s0L g j = g - 1098 := fun g j a b => by
    have : g = 1103 ∨ g = 1104 ∨ g = 1105 ∨ g = 1106 ∨ g = 1107 ∨ g = 1108 := by omega
    rcases this with rfl | rfl | rfl | rfl | rfl | rfl <;> rfl
  have k8 : ∀ j, s0L 800 j = 57 + j * 2 + 1 := fun _ => rfl
  rcases s0_l hf hi with ⟨rfl, -, -, h⟩ | ⟨h1, h2, -, h3⟩ <;> rcases s0_l hf' hi' with ⟨rfl, -, -, h'⟩ | ⟨h1', h2', -, h3'⟩
  · rw [k8, k8] at e; exact ⟨rfl, by omega⟩
  · rw [k8, key _ _ h1' h2'] at e; omega
  · rw [k8, key _ _ h1 h2] at e; omega
  · rw [key _ _ h1' h2', key _ _ h1 h2] at e; exact ⟨by omega, by omega⟩
theorem rc_l (hv : HVC C σ 63 ad ce) (hA : HA ad ce) (hE : HE ad ce) (hC : C (ad 0) % 2 = 1) : RCl (s0D ad) σ S0 := by
  have hA0 := id hA
  unfold HA at hA
  obtain ⟨A0, A1, A2, A3, A4, A5, A6, A7, A8, A9, A10, A11, A12, A13, A14, A15, A16, A17, A18, A19, A20, A21, A22, A23, A24, A25, A26, A27, A28, A29, A30, A31, A32, A33, A34, A35, A36, A37, A38⟩ := hA
  refine ⟨fun f c t i hf hi => ?_, fun f c t i f' c' t' i' hf hf' hi hi' e => ?_, fun _ _ _ _ _ _ _ _ _ _ _ _ _ => Or.inr rfl⟩
  · have hd := (s0_dl (ad := ad) hf hi).1
    have hz : sL σ (ad 0) = 0 := (hv.l (by decide)).trans A1
    refine ⟨?_, ?_, ⟨ad 0, ?_, hz⟩, fun j hj => absurd hj List.not_mem_nil⟩
    · rcases s0_l hf hi with ⟨rfl, rfl, -, h⟩ | ⟨h1, h2, rfl, rfl⟩
      · exact h
      · exact show 0 < 1 by decide
    · rw [hd]
      rcases s0_l hf hi with ⟨rfl, rfl, -, h⟩ | ⟨h1, h2, rfl, rfl⟩
      · show sR σ 800 (ad (57 + i * 2)) = some (ad (57 + i * 2 + 1))
        rw [hv.r (by omega), hE.2.2.2.2.2.1 i h]
        rfl
      · have : f = 1103 ∨ f = 1104 ∨ f = 1105 ∨ f = 1106 ∨ f = 1107 ∨ f = 1108 := by omega
        show sR σ f (ad 1) = _
        rw [hv.r (by decide)]
        rcases this with rfl | rfl | rfl | rfl | rfl | rfl
        · exact A7
        · exact A8
        · exact A9
        · exact A10
        · exact A11
        · exact A12
    · rw [hd]
      show LSTe σ _ _ []
      rcases s0_l hf hi with ⟨rfl, rfl, -, h⟩ | ⟨h1, h2, rfl, rfl⟩
      · have e7 := hE.2.2.2.2.2.2 i h
        exact rc_ls (l := 57 + i * 2 + 1) hv hA0 hC (show 57 + i * 2 + 1 < 63 by omega) (by rw [e7]; rfl) (by rw [e7]; rfl) (by rw [e7]; rfl)
      · have : f = 1103 ∨ f = 1104 ∨ f = 1105 ∨ f = 1106 ∨ f = 1107 ∨ f = 1108 := by omega
        rcases this with rfl | rfl | rfl | rfl | rfl | rfl
        · exact rc_ls hv hA0 hC (l := 5) (by decide) A18 A19 A20
        · exact rc_ls hv hA0 hC (l := 6) (by decide) A21 A22 A23
        · exact rc_ls hv hA0 hC (l := 7) (by decide) A24 A25 A26
        · exact rc_ls hv hA0 hC (l := 8) (by decide) A27 A28 A29
        · exact rc_ls hv hA0 hC (l := 9) (by decide) A30 A31 A32
        · exact rc_ls hv hA0 hC (l := 10) (by decide) A33 A34 A35
  · rw [(s0_dl (ad := ad) hf hi).1, (s0_dl (ad := ad) hf' hi').1] at e
    exact s0_li hf hf' hi hi' (hv.2.1 _ _ (s0_dl (ad := ad) hf hi).2 (s0_dl (ad := ad) hf' hi').2 e)
theorem rc_tb {w : Int32} {i n r : Nat} (hv : HVC C σ 63 ad ce) (hi : i < 62) (h1 : (ce i).1 = 2) (h2 : (ce i).2.1 100 = w) (h3 : (ce i).2.2.1 101 = some (ad (i + 1))) (h4 : (ce (i + 1)).1 = 20) (h5 : (ce (i + 1)).2.2.2.2.1 = n) (h6 : (ce (i + 1)).2.2.2.1 = fun _ => 0) : sK σ (ad i) = 2 ∧ sI σ 100 (ad i) = w ∧ sR σ 101 (ad i) = some (ad (i + 1)) ∧ sK σ (ad (i + 1)) = 20 ∧ sL σ (ad (i + 1)) = n ∧ ∀ j, sA σ (ad (i + 1)) j = zC S0 r j :=
  ⟨(hv.k (by omega)).trans h1, (hv.i (by omega) 100).trans h2, (hv.r (by omega) 101).trans h3, (hv.k (by omega)).trans h4, (hv.l (by omega)).trans h5, fun j => by rw [hv.a (by omega), h6]; rfl⟩
/-- the table of a number: its cell -/
def s0T (r : Nat) : Nat := match r with
  | 0 => 12
  | 1 => 14
  | 2 => 16
  | 3 => 18
  | 4 => 20
  | 5 => 22
  | 1110 => 25
  | 1111 => 27
  | 1112 => 29
  | _ => 31
theorem cF_r {r c : Nat} (h : cF r c = true) : (r < 6 ∧ c = 0) ∨ (1110 ≤ r ∧ r ≤ 1113 ∧ c = 11) := by
  unfold cF at h
  split at h <;> simp_all
theorem s0_t {r c : Nat} (h : cF r c = true) : s0D ad 30000 r = ad (s0T r) ∧ s0D ad 30001 r = ad (s0T r + 1) ∧ s0T r < 62 ∧ ¬ s0T r + 1 = 24 := by
  have : r = 0 ∨ r = 1 ∨ r = 2 ∨ r = 3 ∨ r = 4 ∨ r = 5 ∨ r = 1110 ∨ r = 1111 ∨ r = 1112 ∨ r = 1113 := by
    have := cF_r h
    omega
  rcases this with rfl | rfl | rfl | rfl | rfl | rfl | rfl | rfl | rfl | rfl
  all_goals exact ⟨rfl, rfl, by unfold s0T; decide, by unfold s0T; decide⟩
theorem s0_ti {r c r' c' : Nat} (h : cF r c = true) (h' : cF r' c' = true) (e : s0T r + 1 = s0T r' + 1) : r = r' := by
  have k1 : ∀ r, r < 6 → s0T r = 12 + 2 * r := fun r hr => by
    have : r = 0 ∨ r = 1 ∨ r = 2 ∨ r = 3 ∨ r = 4 ∨ r = 5 := by omega
    rcases this with rfl | rfl | rfl | rfl | rfl | rfl <;> rfl
  have k2 : ∀ r, 1110 ≤ r → r ≤ 1113 → s0T r = 25 + 2 * (r - 1110) := fun r hr hr2 => by
    have : r = 1110 ∨ r = 1111 ∨ r = 1112 ∨ r = 1113 := by omega
    rcases this with rfl | rfl | rfl | rfl <;> rfl
  rcases cF_r h with ⟨q, -⟩ | ⟨q, q2, -⟩ <;> rcases cF_r h' with ⟨g, -⟩ | ⟨g, g2, -⟩
  · rw [k1 r q, k1 r' g] at e; omega
  · rw [k1 r q, k2 r' g g2] at e; omega
  · rw [k2 r q q2, k1 r' g] at e; omega
  · rw [k2 r q q2, k2 r' g g2] at e; omega
theorem rc_c (hv : HVC C σ 63 ad ce) (hA : HA ad ce) : RCc (s0D ad) σ S0 := by
  unfold HA at hA
  obtain ⟨A0, A1, A2, A3, A4, A5, A6, A7, A8, A9, A10, A11, A12, A13, A14, A15, A16, A17, A18, A19, A20, A21, A22, A23, A24, A25, A26, A27, A28, A29, A30, A31, A32, A33, A34, A35, A36, A37, A38, A39, A40, A41, A42, A43, A44, A45, A46, A47, A48, A49, A50, A51, A52, A53, A54, A55, A56, A57, A58, A59, A60, A61, A62, A63, A64, A65, A66, A67, A68, A69, A70, A71, A72, A73, A74, A75, A76, A77, A78, A79, A80, A81, A82, A83, A84, A85, A86, A87, A88, A89, A90, A91, A92, A93, A94, A95, A96, A97, A98, A99, A100, A101, A102, A103, A104, A105, A106, A107⟩ := hA
  refine ⟨fun r c hr => ?_, fun r c r' c' hr hr' e => ?_, ad 24, ?_, ?_, ?_, fun j => ?_, fun r c hr e => ?_⟩
  · rw [(s0_t (ad := ad) hr).1, (s0_t (ad := ad) hr).2.1]
    have : (r = 0 ∨ r = 1 ∨ r = 2 ∨ r = 3 ∨ r = 4 ∨ r = 5) ∧ c = 0 ∨ (r = 1110 ∨ r = 1111 ∨ r = 1112 ∨ r = 1113) ∧ c = 11 := by
      have := cF_r hr
      omega
    rcases this with ⟨rfl | rfl | rfl | rfl | rfl | rfl, rfl⟩ | ⟨rfl | rfl | rfl | rfl, rfl⟩
    · refine ⟨?_, rc_tb hv (i := 12) (by decide) A45 A46 A47 A48 A49 A50⟩
      show sR σ 0 (ad 11) = some (ad 12)
      rw [hv.r (by decide)]; exact A38
    · refine ⟨?_, rc_tb hv (i := 14) (by decide) A51 A52 A53 A54 A55 A56⟩
      show sR σ 1 (ad 11) = some (ad 14)
      rw [hv.r (by decide)]; exact A39
    · refine ⟨?_, rc_tb hv (i := 16) (by decide) A57 A58 A59 A60 A61 A62⟩
      show sR σ 2 (ad 11) = some (ad 16)
      rw [hv.r (by decide)]; exact A40
    · refine ⟨?_, rc_tb hv (i := 18) (by decide) A63 A64 A65 A66 A67 A68⟩
      show sR σ 3 (ad 11) = some (ad 18)
      rw [hv.r (by decide)]; exact A41
    · refine ⟨?_, rc_tb hv (i := 20) (by decide) A69 A70 A71 A72 A73 A74⟩
      show sR σ 4 (ad 11) = some (ad 20)
      rw [hv.r (by decide)]; exact A42
    · refine ⟨?_, rc_tb hv (i := 22) (by decide) A75 A76 A77 A78 A79 A80⟩
      show sR σ 5 (ad 11) = some (ad 22)
      rw [hv.r (by decide)]; exact A43
    · refine ⟨?_, rc_tb hv (i := 25) (by decide) A81 A82 A83 A84 A85 A86⟩
      show sR σ 1110 (ad 1) = some (ad 25)
      rw [hv.r (by decide)]; exact A14
    · refine ⟨?_, rc_tb hv (i := 27) (by decide) A87 A88 A89 A90 A91 A92⟩
      show sR σ 1111 (ad 1) = some (ad 27)
      rw [hv.r (by decide)]; exact A15
    · refine ⟨?_, rc_tb hv (i := 29) (by decide) A93 A94 A95 A96 A97 A98⟩
      show sR σ 1112 (ad 1) = some (ad 29)
      rw [hv.r (by decide)]; exact A16
    · refine ⟨?_, rc_tb hv (i := 31) (by decide) A99 A100 A101 A102 A103 A104⟩
      show sR σ 1113 (ad 1) = some (ad 31)
      rw [hv.r (by decide)]; exact A17
  · rw [(s0_t (ad := ad) hr).2.1, (s0_t (ad := ad) hr').2.1] at e
    exact s0_ti hr hr' (hv.2.1 _ _ (by have := (s0_t (ad := ad) hr).2.2.1; omega) (by have := (s0_t (ad := ad) hr').2.2.1; omega) e)
  · show sR σ 6 (ad 11) = some (ad 24)
    rw [hv.r (by decide)]; exact A44
  · rw [hv.k (by decide)]; exact A105
  · rw [hv.l (by decide)]; exact A106
  · rw [hv.a (by decide), A107]; rfl
  · rw [(s0_t (ad := ad) hr).2.1] at e
    exact (s0_t (ad := ad) hr).2.2.2 (hv.2.1 _ _ (by decide) (by have := (s0_t (ad := ad) hr).2.2.1; omega) e).symm
theorem rc_0 (hv : HVC C σ 63 ad ce) (hA : HA ad ce) (hB : HB ce) (hE : HE ad ce) (hC : C (ad 0) % 2 = 1) : RC (s0D ad) σ S0 ∧ AT (s0D ad) S0 11 0 (ad 1) := ⟨⟨rc_k hv hA hB hE hC, rc_i hv hA hE, rc_r hv hE, rc_l hv hA hE hC, rc_c hv hA⟩, (lv_o (by decide)).mpr (show 0 < 1 by decide), rfl⟩
end
