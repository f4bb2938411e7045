/-! the reference: the rows of the orders are cut -/
section
variable {B k : Nat} {S : Ss} {w v u w0 : MS}
theorem selM {s l n : Nat} {f0 : Option Nat} (hn : n < 8) : (hL S).filter (sel S s l f0 n) = ((hL S).filter (hasO S)).filter (sel S s l f0 n) := by
  rw [List.filter_filter]
  refine List.filter_congr fun x _ => ?_
  cases q : sel S s l f0 n x with
  | false => rfl
  | true =>
    obtain ⟨-, q2, -⟩ := of_decide_eq_true q
    have : hasO S x = true := by
      unfold hasO
      unfold tnN at q2
      cases e : zO S 200 x with
      | none => rw [e] at q2; have : 8 = n := q2; omega
      | some o => rfl
    rw [this]; rfl
theorem cutL_0 {s l : Nat} {f0 : Option Nat} (hM : (hL S).filter (hasO S) = []) : ∀ n, n ≤ 8 → cutL S s l f0 n = f0.toList
  | 0, _ => rfl
  | n + 1, hn => by
    show cutL S s l f0 n ++ (hL S).filter (sel S s l f0 n) = _
    rw [cutL_0 hM n (by omega), selM (by omega), hM]
    exact List.append_nil _
/-- whether a holding is the first one -/
def X4 (S : Ss) (f0 : Option Nat) (x4 : Int32) : Prop := (f0 = none ∧ x4 = -1) ∨ ∃ x0 t0, f0 = some x0 ∧ x0 ∈ hL S ∧ zO S 205 x0 = some t0 ∧ x4 = nI t0
theorem KI.l43 (h : Rel B k S w0) {f0 : Option Nat} (hb : KB S w0 w f0) {x4 : Int32} (hx4 : X4 S f0 x4) {s l : Nat} (hl : l < zN S 5) {r : Int32} (hI : KI S w v f0 f0.toList r) : ∃ u, g_X12_shorts_43 FU (nI s) (nI l) x4 (rcut (zA S 204) f0.toList r) 0 v = g_X12_shorts_206 FU (nI s) (nI l) x4 (rcut (zA S 204) (cutL S s l f0 8) r) 0 u ∧ KI S w u f0 (cutL S s l f0 8) r := by
  have h12 := h.lo.1
  have h8 := h.or.1
  have hcnt := h.hcount
  have i39 : mI w 39 = nI ((hL S).filter (hasO S)).length := (hb.2.2 39 (by decide)).trans h.hm.1
  obtain ⟨M, hM⟩ : ∃ M, M = (hL S).filter (hasO S) := ⟨_, rfl⟩
  have hf0 : ∀ x, x ∈ f0.toList → x ∈ hL S := fun x hx => by
    rcases hx4 with ⟨q, -⟩ | ⟨x0, t0, q, q2, -⟩
    · rw [q] at hx; cases hx
    · rw [q] at hx; rw [List.mem_singleton.mp hx]; exact q2
  obtain ⟨H, hH⟩ : ∃ H, H = M.length := ⟨_, rfl⟩
  rw [← hM, ← hH] at i39 hcnt
  by_cases H0 : H = 0
  · have hM0 : (hL S).filter (hasO S) = [] := by rw [← hM]; exact List.length_eq_zero_iff.mp (by rw [← hH, H0])
    obtain ⟨F, hF⟩ : ∃ F, FU = F + 1 := ⟨FU - 1, by have := FU_gt (n := 5) (by decide); omega⟩
    have z39 : mI v 39 = 0 := by rw [hI.2.2.2.2.1, i39, H0]; rfl
    rw [cutL_0 hM0 8 (Nat.le_refl _)]
    refine ⟨v, ?_, hI⟩
    rw [show g_X12_shorts_43 FU = g_X12_shorts_43 (F + 1) by rw [← hF]]
    simp only [g_X12_shorts_43, kif, r_gb, gbn_s, r_grd, r_gbo, r_gret, r_gst, k_isIn, k_isSlot, k_isItem, k_isGroup, k_isRobot, k_are, k_holds0, k_holds1, k_holds2, k_holds3, k_bit, k_less, bI_t, bI_f, i10, i00, i01, i11, i20, i30, ↓reduceIte, z39, Int32.mul_zero, Int32.le_refl]
  · have Hp : 0 < H := by omega
    obtain ⟨P, hP⟩ : ∃ P : Nat → List Nat, P = fun i => cutL S s l f0 (i / H) ++ (M.take (i % H)).filter (sel S s l f0 (i / H)) := ⟨_, rfl⟩
    have P0 : P 0 = f0.toList := by
      rw [hP]
      show cutL S s l f0 (0 / H) ++ (M.take (0 % H)).filter _ = _
      rw [Nat.zero_div, Nat.zero_mod, List.take_zero]
      exact List.append_nil _
    have PN : P (8 * H) = cutL S s l f0 8 := by
      rw [hP]
      show cutL S s l f0 (8 * H / H) ++ (M.take (8 * H % H)).filter _ = _
      rw [Nat.mul_div_cancel _ Hp, Nat.mul_mod_left, List.take_zero]
      exact List.append_nil _
    obtain ⟨u, a, ⟨i1, i2⟩, e⟩ := g_loop (α := Int32) (fun f a j => g_X12_shorts_43 f (nI s) (nI l) x4 a j) (8 * H) (fun i v a => a = rcut (zA S 204) (P i) r ∧ KI S w v f0 (P i) r) (fun a v => g_X12_shorts_206 FU (nI s) (nI l) x4 a 0 v) (fun f i v a hi hI => by
      obtain ⟨i1, i2⟩ := hI
      obtain ⟨o, ho⟩ : ∃ o, o = i / H := ⟨_, rfl⟩
      obtain ⟨j, hj⟩ : ∃ j, j = i % H := ⟨_, rfl⟩
      have ho8 : o < 8 := by rw [ho]; exact Nat.div_lt_of_lt_mul (by omega)
      have hjH : j < H := by rw [hj]; exact Nat.mod_lt _ Hp
      have hij : i = j + H * o := by rw [ho, hj]; have := Nat.div_add_mod i H; omega
      have hx : M[j]? = some (M[j]'(by omega)) := List.getElem?_eq_getElem (by omega)
      generalize M[j]'(by omega) = X at hx
      have hXM := List.mem_of_getElem? hx
      rw [hM] at hXM
      obtain ⟨hXm, hXo⟩ := List.mem_filter.mp hXM
      have Pi : P i = cutL S s l f0 o ++ (M.take j).filter (sel S s l f0 o) := by rw [hP, ho, hj]
      have Pn : P (i + 1) = P i ++ if sel S s l f0 o X = true then [X] else [] := by
        rw [Pi, List.append_assoc, ← fil_take _ _ _ _ hx, hP]
        show cutL S s l f0 ((i + 1) / H) ++ (M.take ((i + 1) % H)).filter (sel S s l f0 ((i + 1) / H)) = _
        by_cases q : j + 1 < H
        · have e1 : (i + 1) / H = o := by rw [show i + 1 = (j + 1) + H * o by omega, Nat.add_mul_div_left _ _ Hp, Nat.div_eq_of_lt q, Nat.zero_add]
          have e2 : (i + 1) % H = j + 1 := by rw [show i + 1 = (j + 1) + H * o by omega, Nat.add_mul_mod_self_left, Nat.mod_eq_of_lt q]
          rw [e1, e2]
        · have e0 : i + 1 = H * (o + 1) := by rw [Nat.mul_add]; omega
          rw [e0, Nat.mul_div_cancel_left _ Hp, Nat.mul_mod_right, List.take_zero, show j + 1 = M.length by omega, List.take_length]
          show (cutL S s l f0 o ++ (hL S).filter (sel S s l f0 o)) ++ [] = _
          rw [List.append_nil, selM ho8, ← hM]
      have hXi : sel S s l f0 o X = true → X ∉ P i := fun q r => by
        obtain ⟨q1, q2, -⟩ := of_decide_eq_true q
        rw [Pi] at r
        rcases List.mem_append.mp r with r | r
        · rcases cutL_m o X r with e | ⟨-, -, e3, -⟩
          · exact q1 e.symm
          · omega
        · exact nd_take (by rw [hM]; exact h.ho.1.sublist List.filter_sublist) hx (List.mem_filter.mp r).1
      have hPs : ∀ x, x ∈ P i → x ∈ hL S := fun x hx => by
        rw [Pi] at hx
        rcases List.mem_append.mp hx with r | r
        · rcases cutL_m o x r with e | e
          · exact hf0 x (by rw [e]; exact List.mem_singleton.mpr rfl)
          · exact e.1
        · have := (List.take_sublist _ _).subset (List.mem_filter.mp r).1
          rw [hM] at this
          exact (List.mem_filter.mp this).1
      have i2' := i2
      obtain ⟨k1, k2, k3, k4, k5, k6⟩ := i2
      obtain ⟨s0, o', j', l', s1, s2, s3, s4, s5, s6, s7, s8⟩ := k1.2.2.2 j X (by rw [← hM]; exact hx)
      obtain ⟨j2, c1, c2, c3, -⟩ := h.hpos hXm s1
      have hj2 : j2 = j' := Option.some.inj (c1.symm.trans s2)
      subst hj2
      obtain ⟨p', hp', -, hq'⟩ := h.lqO c2 c3
      obtain ⟨l2, g1, g2⟩ := (h.ho.2.1 X hXm).2.2.1
      have hll : l2 = l' := Option.some.inj (g2.symm.trans s3)
      subst hll
      have c39 : mI v 39 = nI H := by rw [k5]; exact i39
      have e8H : (8 : Int32) * nI H = nI (8 * H) := by rw [show (8 : Int32) = nI 8 from rfl, pk_mul]
      have eR : nI i - nI i / nI H * nI H = nI j := by rw [pk_rem (by omega) Hp (by omega), hj]
      have eD : nI i / nI H = nI o := by rw [pk_div (by omega) Hp (by omega), ho]
      have eL : nI (lqS S o' j2) / 3 = nI o' := by rw [div3 (by omega)]; congr 1; omega
      have hne : decide (¬ nI H = 0) = true := decide_eq_true (nI_ne0 Hp (by omega))
      have tn : tnN S X = o' := by unfold tnN; rw [s1]; rfl
      have b44 : j < mL 44 := show j < 2400 by omega
      have b43 : j < mL 43 := show j < 2400 by omega
      have b42 : j < mL 42 := show j < 2400 by omega
      have b41 : j < mL 41 := show j < 2400 by omega
      have b40 : j < mL 40 := show j < 2400 by omega
      have cj := nI_clamp (show j < 2 ^ 31 by omega)
      have r1 : g_X12_shorts_43 (f + 1) (nI s) (nI l) x4 a (nI i) v = g_X12_shorts_87 (g_X12_shorts_43 f) (nI s) (nI l) x4 a (nI i) (nI j) (if some X = f0 then 0 else 1) v := by
        rcases hx4 with ⟨q1, q2⟩ | ⟨x0, t0, q1, q2, q3, q4⟩
        · rw [q1, q2, if_neg (show ¬ some X = none by simp)]
          simp only [g_X12_shorts_43, kif, r_gb, gbn_s, r_grd, r_gbo, r_gret, r_gst, k_isIn, k_isSlot, k_isItem, k_isGroup, k_isRobot, k_are, k_holds0, k_holds1, k_holds2, k_holds3, k_bit, k_less, bI_t, bI_f, i10, i00, i01, i11, i20, i30, ↓reduceIte, c39, e8H, nI_ge hi (show 8 * H < 2 ^ 31 by omega), gmd, hne, eR]
        · have ht0 := ((h.ho.2.1 x0 q2).2.2.2.2.2 t0 q3).1
          have hm1 : ¬ nI t0 = -1 := fun e => by
            have := (fcI_m1 (o := some t0) (fun j hj => by cases hj; have := h.ta.1; omega)).mp e
            cases this
          have hc : mA v 44 j = nI t0 ↔ some X = some x0 := by
            rw [s8]
            refine (fcI_n (N := 60) (by decide) s0 (by have := h.ta.1; omega)).trans ⟨fun q => by rw [h.co.uq hXm q2 q q3], fun q => ?_⟩
            rw [Option.some.inj q]; exact q3
          rw [q1, q4]
          by_cases q5 : some X = some x0
          · rw [if_pos q5]
            simp only [g_X12_shorts_43, kif, r_gb, gbn_s, r_grd, r_gbo, r_gret, r_gst, k_isIn, k_isSlot, k_isItem, k_isGroup, k_isRobot, k_are, k_holds0, k_holds1, k_holds2, k_holds3, k_bit, k_less, bI_t, bI_f, i10, i00, i01, i11, i20, i30, ↓reduceIte, c39, e8H, nI_ge hi (show 8 * H < 2 ^ 31 by omega), gmd, hne, eR, hm1, r_gnI b44 (show mL 44 < 2 ^ 31 by decide), cj, hc.mpr q5]
          · rw [if_neg q5]
            have q6 := mt hc.mp q5
            simp only [g_X12_shorts_43, kif, r_gb, gbn_s, r_grd, r_gbo, r_gret, r_gst, k_isIn, k_isSlot, k_isItem, k_isGroup, k_isRobot, k_are, k_holds0, k_holds1, k_holds2, k_holds3, k_bit, k_less, bI_t, bI_f, i10, i00, i01, i11, i20, i30, ↓reduceIte, c39, e8H, nI_ge hi (show 8 * H < 2 ^ 31 by omega), gmd, hne, eR, hm1, r_gnI b44 (show mL 44 < 2 ^ 31 by decide), cj, q6]
      rw [r1]
      by_cases q : sel S s l f0 o X = true
      · rw [if_pos q] at Pn
        have q' := q
        obtain ⟨q1, q2, q3, q4⟩ := of_decide_eq_true q
        have hXn := hXi q'
        have s7' : mA v 43 j = zA S 204 X := by
          rw [s7]
          show (if some X = f0 then zA S 204 X else fcut (zA S 204) (P i) r X) = _
          rw [if_neg q1, fcut_n _ _ _ hXn]
        have eo : o' = o := tn.symm.trans q2
        have el : l2 = l := Option.some.inj (s3.symm.trans q4)
        obtain ⟨z, hz⟩ : ∃ z, z = mn (zA S 204 X) (rcut (zA S 204) (P i) r) := ⟨_, rfl⟩
        have m1 : mA (mSA 43 j z v) 43 j = z := by rw [sBA, if_pos rfl]
        have m2 : mA (mSA 43 j z v) 44 j = fcI (zO S 205 X) := by rw [fBA (by decide)]; exact s8
        have m40 : mA v 40 j / 3 = nI o := by rw [s4, eL, eo]
        have m42 : mA v 42 j = nI l := by rw [s6, el]
        have run : g_X12_shorts_87 (g_X12_shorts_43 f) (nI s) (nI l) x4 a (nI i) (nI j) 1 v = if fcI (zO S 205 X) = -1 then g_X12_shorts_43 f (nI s) (nI l) x4 (a - z) (nI (i + 1)) (mSA 43 j z v) else gbn (g_X12_keeps (fcI (zO S 205 X)) z (mSA 43 j z v)) fun _ u => g_X12_shorts_43 f (nI s) (nI l) x4 (a - z) (nI (i + 1)) u := by
          simp only [g_X12_shorts_87, kif, r_gb, gbn_s, r_grd, r_gbo, r_gret, r_gst, k_isIn, k_isSlot, k_isItem, k_isGroup, k_isRobot, k_are, k_holds0, k_holds1, k_holds2, k_holds3, k_bit, k_less, bI_t, bI_f, i10, i00, i01, i11, i20, i30, ↓reduceIte, r_gnI b40 (show mL 40 < 2 ^ 31 by decide), r_gnI b41 (show mL 41 < 2 ^ 31 by decide), r_gnI b42 (show mL 42 < 2 ^ 31 by decide), r_gnI b43 (show mL 43 < 2 ^ 31 by decide), r_gnI b44 (show mL 44 < 2 ^ 31 by decide), cj, gmd, c39, hne, eD, m40, s5, q3, m42, s7', mn_less, i1, ← hz, m1, m2, nI_1]
        rw [if_neg q1, run]
        obtain ⟨t1, t2⟩ := KI.row h hb hXm (by rw [← hM]; exact hx) q1 hXn hPs i2'
        rw [← hz] at t1 t2
        have er : rcut (zA S 204) (P (i + 1)) r = a - z := by rw [Pn, rcut_app, i1, hz]
        cases ht : zO S 205 X with
        | none =>
          refine ⟨_, rcut (zA S 204) (P (i + 1)) r, ?_, rfl, by rw [Pn]; exact t1 ht⟩
          rw [er]; exact if_pos rfl
        | some t =>
          obtain ⟨u, u1, u2⟩ := t2 t ht
          have hne1 : ¬ fcI (some t) = -1 := fun e => by
            have := (fcI_m1 (o := some t) (fun j hj => by cases hj; have := s0 t ht; omega)).mp e
            cases this
          have zt : fcI (some t) = nI t := rfl
          refine ⟨u, rcut (zA S 204) (P (i + 1)) r, ?_, rfl, by rw [Pn]; exact u2⟩
          rw [er, if_neg hne1, zt, u1, gbn_s]
      · rw [if_neg q, List.append_nil] at Pn
        have q' : ¬ (¬ some X = f0 ∧ tnN S X = o ∧ zA S 202 X = nI s ∧ zO S 203 X = some l) := fun r => q (decide_eq_true r)
        refine ⟨v, a, ?_, by rw [Pn]; exact i1, by rw [Pn]; exact i2'⟩
        by_cases c1 : mA v 40 j / 3 = nI o
        · by_cases c2 : mA v 41 j = nI s
          · by_cases c3 : mA v 42 j = nI l
            · have q1 : some X = f0 := Classical.byContradiction fun n => q' ⟨n, by
                rw [s4, eL] at c1
                rw [tn]; exact (nI_eq (by omega) (by omega)).mp c1, by rw [← s5]; exact c2, by
                rw [s6] at c3
                rw [s3, (nI_eq (by omega) (by omega)).mp c3]⟩
              rw [if_pos q1]
              simp only [g_X12_shorts_87, kif, r_gb, gbn_s, r_grd, r_gbo, r_gret, r_gst, k_isIn, k_isSlot, k_isItem, k_isGroup, k_isRobot, k_are, k_holds0, k_holds1, k_holds2, k_holds3, k_bit, k_less, bI_t, bI_f, i10, i00, i01, i11, i20, i30, ↓reduceIte, r_gnI b40 (show mL 40 < 2 ^ 31 by decide), r_gnI b41 (show mL 41 < 2 ^ 31 by decide), r_gnI b42 (show mL 42 < 2 ^ 31 by decide), cj, gmd, c39, hne, eD, c1, c2, c3, nI_1]
            · simp only [g_X12_shorts_87, kif, r_gb, gbn_s, r_grd, r_gbo, r_gret, r_gst, k_isIn, k_isSlot, k_isItem, k_isGroup, k_isRobot, k_are, k_holds0, k_holds1, k_holds2, k_holds3, k_bit, k_less, bI_t, bI_f, i10, i00, i01, i11, i20, i30, ↓reduceIte, r_gnI b40 (show mL 40 < 2 ^ 31 by decide), r_gnI b41 (show mL 41 < 2 ^ 31 by decide), r_gnI b42 (show mL 42 < 2 ^ 31 by decide), cj, gmd, c39, hne, eD, c1, c2, c3, nI_1]
          · simp only [g_X12_shorts_87, kif, r_gb, gbn_s, r_grd, r_gbo, r_gret, r_gst, k_isIn, k_isSlot, k_isItem, k_isGroup, k_isRobot, k_are, k_holds0, k_holds1, k_holds2, k_holds3, k_bit, k_less, bI_t, bI_f, i10, i00, i01, i11, i20, i30, ↓reduceIte, r_gnI b40 (show mL 40 < 2 ^ 31 by decide), r_gnI b41 (show mL 41 < 2 ^ 31 by decide), cj, gmd, c39, hne, eD, c1, c2, nI_1]
        · simp only [g_X12_shorts_87, kif, r_gb, gbn_s, r_grd, r_gbo, r_gret, r_gst, k_isIn, k_isSlot, k_isItem, k_isGroup, k_isRobot, k_are, k_holds0, k_holds1, k_holds2, k_holds3, k_bit, k_less, bI_t, bI_f, i10, i00, i01, i11, i20, i30, ↓reduceIte, r_gnI b40 (show mL 40 < 2 ^ 31 by decide), cj, gmd, c39, hne, eD, c1, nI_1]) (fun f v a hI => by
      have c39 : mI v 39 = nI H := by rw [hI.2.2.2.2.2.1]; exact i39
      have e8H : (8 : Int32) * nI H = nI (8 * H) := by rw [show (8 : Int32) = nI 8 from rfl, pk_mul]
      simp only [g_X12_shorts_43, kif, r_gb, gbn_s, r_grd, r_gbo, r_gret, r_gst, k_isIn, k_isSlot, k_isItem, k_isGroup, k_isRobot, k_are, k_holds0, k_holds1, k_holds2, k_holds3, k_bit, k_less, bI_t, bI_f, i10, i00, i01, i11, i20, i30, ↓reduceIte, c39, e8H, Int32.le_refl]) FU (FU_gt (by omega)) (w := v) (a := rcut (zA S 204) f0.toList r) ⟨by rw [P0], by rw [P0]; exact hI⟩
    rw [PN] at i1 i2
    exact ⟨u, by rw [e, i1], i2⟩
end
