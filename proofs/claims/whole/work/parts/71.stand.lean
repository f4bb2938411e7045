section
variable {S T : Ss} {w v : MS}
def inR (o n j : Nat) : Prop := 12 * (20 + o) ≤ j ∧ j < 12 * (20 + o) + n
/-- what sending does at the stand -/
def SD (S U : Ss) (o i k : Nat) : Prop := (∀ f, f ≠ 7 → zA U f = zA S f) ∧ zO U = zO S ∧ zL U = zL S ∧ zP U = zP S ∧ (∀ f, f ≠ 60 ∧ f ≠ 61 ∧ f ≠ 62 → zN U f = zN S f) ∧ cst S U ∧ (∀ f, f ≠ 0 ∧ f ≠ 1 ∧ f ≠ 2 ∧ f ≠ 5 ∧ f ≠ 1111 ∧ f ≠ 1112 → zC U f = zC S f) ∧ (∀ j, j < 216 → zC U 5 j = zC S 5 j) ∧ (∀ j, (12 * (20 + o) ≤ j ∧ j < 12 * (20 + o) + i → zC U 0 j = 0) ∧ (¬ (12 * (20 + o) ≤ j ∧ j < 12 * (20 + o) + i) → zC U 0 j = zC S 0 j)) ∧ (∀ p i', p < 28 → i' < 6 → zC U 1 (6 * p + i') = if p = 20 + o then zC S 1 (6 * p + i') - sm (List.range i) (fun l => if itS S l = i' then zC S 0 (12 * (20 + o) + l) else 0) else zC S 1 (6 * p + i')) ∧ (∀ j, j < 240 → zC U 2 j = zC S 2 j) ∧ (∀ o' i', o' < 8 → i' < 6 → zC U 1112 (6 * o' + i') = if o' = o then zC S 1112 (6 * o' + i') + sm (List.range i) (fun l => if itS S l = i' then zC S 0 (12 * (20 + o) + l) else 0) else zC S 1112 (6 * o' + i')) ∧ (∀ o' l, o' < 8 → l < 12 → zC U 1111 (12 * o' + l) = if o' = o ∧ l < i then zC S 1111 (12 * o' + l) + zC S 0 (12 * (20 + o) + l) else zC S 1111 (12 * o' + l)) ∧ ∃ k', k' ≤ k + i ∧ mvA U k' ∧ ∀ p l, p < 28 → l < 12 → mvS (zM U) k' p l = zC U 0 (12 * p + l)
theorem e_stand {k o n : Nat} (ho : o < 8) (hn : n = zN S 5) (h12 : n ≤ 12) (hL : zL S 1103 0 = List.range n) (hI : ∀ i, i < 6 → zA S 300 i = nI i) (hl : ∀ l, l < n → zA S 500 l = nI l ∧ zO S 501 l = some (itS S l) ∧ itS S l < 6) (hm : mvA S k) (hmv : ∀ p l, p < 28 → l < 12 → mvS (zM S) k p l = zC S 0 (12 * p + l)) (hk : k + 12 ≤ 1024) : ∃ U, (f_X11_sendStand (nI o)).1 S = some (sm (List.range n) (fun l => zC S 0 (12 * (20 + o) + l)), U) ∧ SD S U o n k := by
  obtain ⟨U, a, ⟨i0, i1⟩, e⟩ := m_loop (α := Int32) (fun f a j => f_X11_sendStand_4 f (nI o) a j) n (fun i U a => a = sm (List.range i) (fun l => zC S 0 (12 * (20 + o) + l)) ∧ SD S U o i k) (fun a U => some (a, U)) (fun f i U a hi hI2 => by
    obtain ⟨i0, a1, a2, a3, a4, a5, a6, a7, a8, a9, a10, a11, a12, a13, k', a14, a15, a16⟩ := hI2
    obtain ⟨c1, c2, c3⟩ := hl i hi
    obtain ⟨x, hx⟩ : ∃ x, x = zC S 0 (12 * (20 + o) + i) := ⟨_, rfl⟩
    have e20 : (20 : Int32) + nI o = nI (20 + o) := by rw [show (20 : Int32) = nI 20 from rfl, nI_add]
    have eU : zC U 0 (12 * (20 + o) + i) = x := by rw [hx]; exact (a9 _).2 (by omega)
    have ecat : cAt U 0 (nI (20 + o)) (nI i) = x := by
      rw [← eU]; exact cAt_in (S := U) (r := 0) (p := 20 + o) (l := i) (show i < 12 by omega) (show (20 + o) * 12 + i < 336 by omega)
    have hlU : zL U 1103 0 = List.range n := by rw [a3]; exact hL
    have hget : lAt (zL U 1103 0) (nI i) = some i := lAt_n (by omega) (by rw [hlU, List.getElem?_range hi])
    have hlen : (zL U 1103 0).length = n := by rw [hlU, List.length_range]
    have z300 : ∀ j, j < 6 → zA U 300 j = nI j := by rw [a1 300 (by decide)]; exact hI
    have z51 : zO U 501 i = some (itS S i) := by rw [a2]; exact c2
    obtain ⟨V1, b1, b2, b3, b4, b5, b6, b7, b8, b9⟩ := e_add (S := U) (r := 1112) (l := itS S i) (o := some o) (x := x) c3 (fun p hp => by cases hp; show o * 6 + itS S i < 48; omega)
    obtain ⟨V2, d1, d2, d3, d4, d5, d6, d7, d8, d9⟩ := e_add (S := V1) (r := 1111) (l := i) (o := some o) (x := x) (show i < 12 by omega) (fun p hp => by cases hp; show o * 12 + i < 96; omega)
    have A2 : zA V2 = zA U := d4.trans b4
    have O2 : zO V2 = zO U := d5.trans b5
    have N2 : zN V2 = zN U := d9.trans b9
    have M2 : zM V2 = zM U := d8.trans b8
    have it2 : itS V2 i = itS S i := by unfold itS; rw [O2, a2]
    obtain ⟨W, t0, t1, t2, t3, t4, t5, t6, t7, t8, t9, t10, t11, k2, t12, t13, t14⟩ := e_move (S := V2) (k := k') (a := some (20 + o)) (b := none) (l := i) x (by rw [A2]; exact z300) (by rw [A2, a1 500 (by decide)]; exact c1) (by rw [O2, it2]; exact z51) (by rw [it2]; exact c3) (by unfold mvA; rw [A2, N2]; exact a15) (by omega) (fun p hp => by cases hp; omega) (fun p hp => by cases hp) (show i < 12 by omega)
    have hd : ∀ j, dd (some (20 + o)) none i x j = if j = 12 * (20 + o) + i then -x else 0 := fun j => by
      unfold dd
      show (if j = 12 * (20 + o) + i then -x else 0) + (0 : Int32) = _
      rw [Int32.add_zero]
    have C0 : ∀ j, zC W 0 j = if j = 12 * (20 + o) + i then 0 else zC U 0 j := fun j => by
      rw [t8, hd, d3 0 (by decide), b3 0 (by decide)]
      by_cases q : j = 12 * (20 + o) + i
      · rw [if_pos q, if_pos q, q, eU, Int32.add_right_neg]
      · rw [if_neg q, if_neg q, Int32.add_zero]
    refine ⟨W, a + x, ?_, ?_, fun f hf => ?_, ?_, ?_, ?_, fun f hf => ?_, ?_, fun f hf => ?_, fun j hj => ?_, fun j => ⟨fun hj => ?_, fun hj => ?_⟩, fun p i' hp hi' => ?_, fun j hj => ?_, fun o' i' ho' hi' => ?_, fun o' l ho' hl' => ?_, k2, by omega, t13, fun p l hp hl' => ?_⟩
    · have m1 : fcI (some o) = nI o := rfl
      rw [m1] at b1 d1
      have t0' : (f_X0_move (nI (20 + o)) (-1) i x).1 V2 = some ((), W) := t0
      simp only [f_X11_sendStand_4, r_mb, bnd_s, r_mrd, r_mbo, r_mret, r_mthr, r_wA, r_wO, r_madd, r_mput, r_mopt, r_mcn, r_mcs, ite_f, e_isWithin, e_isSlot, e_isItem, e_isGroup, e_isRobot, e_isLot, e_isNotice, e_isOrder, e_isTask, bI_t, bI_f, i10, i00, i01, i11, i20, i30, ↓reduceIte, hlen, nI_ge hi (show n < 2 ^ 31 by omega), mlget, hget, e20, ecat, z51, z300 _ c3, b1, d1, t0', nI_1]
    · rw [List.range_succ, sm_app, i0, hx]
    · rw [t1 f hf, A2, a1 f hf]
    · rw [t2, O2, a2]
    · rw [t3, d6, b6, a3]
    · rw [t4, d7, b7, a4]
    · rw [t6 f hf, N2, a5 f hf]
    · unfold cst at t7 a6 ⊢
      rw [N2] at t7
      omega
    · rw [t5 f ⟨hf.1, hf.2.1, hf.2.2.2.1, hf.2.2.1⟩, d3 f hf.2.2.2.2.1, b3 f hf.2.2.2.2.2, a7 f hf]
    · obtain ⟨p, l', e, h1, h2⟩ : ∃ p l', j = 12 * p + l' ∧ p < 18 ∧ l' < 12 := ⟨j / 12, j % 12, by omega, by omega, by omega⟩
      rw [e, t10 p l' h1 h2, if_neg, d3 5 (by decide), b3 5 (by decide), a8 _ (by omega)]
      rintro ⟨-, -, r | r⟩
      · have := Option.some.inj r; omega
      · cases r
    · rw [C0]
      by_cases q : j = 12 * (20 + o) + i
      · rw [if_pos q]
      · rw [if_neg q]; exact (a9 j).1 (by omega)
    · rw [C0, if_neg (by omega)]; exact (a9 j).2 (by omega)
    · rw [t9 p i' hi', hd, d3 1 (by decide), b3 1 (by decide), a10 p i' hp hi', it2]
      by_cases q : p = 20 + o
      · rw [if_pos q, if_pos q, List.range_succ, sm_app, ← hx, q]
        by_cases q2 : i' = itS S i
        · rw [if_pos q2, if_pos rfl, if_pos q2.symm, Int32.sub_eq_add_neg, Int32.sub_eq_add_neg, Int32.neg_add, Int32.sub_eq_add_neg, ← Int32.add_assoc]
        · rw [if_neg q2, if_neg (fun r => q2 r.symm), Int32.add_zero, Int32.add_zero]
      · rw [if_neg q, if_neg q]
        by_cases q2 : i' = itS S i
        · rw [if_pos q2, if_neg (by omega), Int32.add_zero]
        · rw [if_neg q2, Int32.add_zero]
    · rw [t11, d3 2 (by decide), b3 2 (by decide), a11 j hj]
      unfold dd
      show zC S 2 j + ((if j = 12 * (20 + o) + i then _ else (0 : Int32)) + (0 : Int32)) = _
      rw [if_neg (by omega)]
      show _ + ((0 : Int32) + 0) = _
      rw [Int32.add_zero, Int32.add_zero]
    · rw [t5 1112 (by decide), d3 1112 (by decide), b2, a12 o' i' ho' hi']
      show _ + (if 6 * o' + i' = 6 * o + itS S i then x else 0) = _
      by_cases q : o' = o
      · rw [if_pos q, if_pos q, List.range_succ, sm_app, ← hx]
        by_cases q2 : itS S i = i'
        · rw [if_pos (by omega), if_pos q2, Int32.add_assoc]
        · rw [if_neg (by omega), if_neg q2, Int32.add_zero, Int32.add_zero]
      · rw [if_neg q, if_neg q, if_neg (by omega), Int32.add_zero]
    · rw [t5 1111 (by decide), d2, b3 1111 (by decide), a13 o' l ho' hl']
      show _ + (if 12 * o' + l = 12 * o + i then x else 0) = _
      by_cases q : o' = o ∧ l < i
      · rw [if_pos q, if_neg (by omega), if_pos ⟨q.1, by omega⟩, Int32.add_zero]
      · rw [if_neg q]
        by_cases q2 : o' = o ∧ l = i
        · rw [if_pos (by omega), if_pos ⟨q2.1, by omega⟩, hx, q2.2]
        · rw [if_neg (by omega), if_neg (by omega), Int32.add_zero]
    · rw [t14 p l hp hl', M2, a16 p l hp hl', t8, d3 0 (by decide), b3 0 (by decide)]) (fun f U a hI2 => by
    have hlU : zL U 1103 0 = List.range n := by rw [hI2.2.2.2.1]; exact hL
    have hlen : (zL U 1103 0).length = n := by rw [hlU, List.length_range]
    simp only [f_X11_sendStand_4, r_mb, bnd_s, r_mrd, r_mbo, r_mret, r_mthr, r_wA, r_wO, r_madd, r_mput, r_mopt, r_mcn, r_mcs, ite_f, e_isWithin, e_isSlot, e_isItem, e_isGroup, e_isRobot, e_isLot, e_isNotice, e_isOrder, e_isTask, bI_t, bI_f, i10, i00, i01, i11, i20, i30, ↓reduceIte, hlen, Int32.le_refl]) FU (FU_gt (by omega)) (S := S) (a := 0) ⟨rfl, fun _ _ => rfl, rfl, rfl, rfl, fun _ _ => rfl, cst.rf S, fun _ _ => rfl, fun _ _ => rfl, fun j => ⟨fun r => absurd r (by omega), fun _ => rfl⟩, fun p i' _ _ => by
      show _ = if p = 20 + o then zC S 1 (6 * p + i') - (0 : Int32) else _
      rw [Int32.sub_zero, ite_self], fun _ _ => rfl, fun o' i' _ _ => by
      show _ = if o' = o then zC S 1112 (6 * o' + i') + (0 : Int32) else _
      rw [Int32.add_zero, ite_self], fun o' l _ _ => by rw [if_neg (fun r => Nat.not_lt_zero _ r.2)], k, Nat.le_refl _, hm, hmv⟩
  rw [i0] at e
  exact ⟨U, e, i1⟩
end
