section
variable {m : Nat} {S T U : Ss} {w v u : MS}
/-- the reference's state of what is held, the rest of another -/
def hyb (w v : MS) : MS := (fun k => if k = 39 then mI v k else mI w k, fun k => if k = 40 ∨ k = 41 ∨ k = 42 ∨ k = 43 ∨ k = 44 ∨ k = 51 ∨ k = 52 ∨ k = 58 ∨ k = 59 then mA v k else mA w k)
theorem hyb_39 : mI (hyb w v) 39 = mI v 39 := by
  show (if 39 = 39 then mI v 39 else mI w 39) = _
  exact if_pos rfl
theorem hyb_I {k : Nat} (h : k ≠ 39) : mI (hyb w v) k = mI w k := if_neg h
theorem hyb_h {k : Nat} (h : k = 40 ∨ k = 41 ∨ k = 42 ∨ k = 43 ∨ k = 44 ∨ k = 51 ∨ k = 52 ∨ k = 58 ∨ k = 59) : mA (hyb w v) k = mA v k := by
  funext j
  show (if k = 40 ∨ k = 41 ∨ k = 42 ∨ k = 43 ∨ k = 44 ∨ k = 51 ∨ k = 52 ∨ k = 58 ∨ k = 59 then mA v k else mA w k) j = _
  rw [if_pos h]
theorem hyb_w {k : Nat} (h : ¬ (k = 40 ∨ k = 41 ∨ k = 42 ∨ k = 43 ∨ k = 44 ∨ k = 51 ∨ k = 52 ∨ k = 58 ∨ k = 59)) : mA (hyb w v) k = mA w k := by
  funext j
  show (if k = 40 ∨ k = 41 ∨ k = 42 ∨ k = 43 ∨ k = 44 ∨ k = 51 ∨ k = 52 ∨ k = 58 ∨ k = 59 then mA v k else mA w k) j = _
  rw [if_neg h]
theorem hyb_VF : VF w (hyb w v) := ⟨fun k hk => hyb_I hk, fun k hk => hyb_w (by omega)⟩
/-- an order is sent: what was let go already, what is packed and goes -/
theorem Rel.sendF {B k : Nat} (h : Rel B k S w) {o : Nat} (ho : o < zN S 7) (h5 : zA S 705 o = 0) (hno : ∀ x, x ∈ hL S → ¬ zO S 200 x = some o) {T : Ss} (hT : PFc S T) {b : Int32} {T3 : Ss} (e3 : T3 = pA 706 o (zA S 1115 0) (pA 705 o 1 (pA 1118 0 b T))) (hU : SD T3 U o (zN S 5) k) (hk : k + 12 ≤ 1024) (vI : ∀ f, f ≠ 0 ∧ f ≠ 2 → mI v f = mI w f) (v2 : mI v 2 = b) (vA : ∀ f, f ≠ 19 ∧ f ≠ 32 ∧ f ≠ 33 ∧ f ≠ 34 ∧ f ≠ 35 ∧ f ≠ 60 ∧ f ≠ 61 ∧ f ≠ 62 ∧ f ≠ 63 ∧ f ≠ 64 → mA v f = mA w f) (v19 : ∀ j, mA v 19 j = if 12 * (20 + o) ≤ j ∧ j < 12 * (20 + o) + zN S 5 then 0 else mA w 19 j) (v33 : ∀ j, mA v 33 j = if 12 * o ≤ j ∧ j < 12 * o + zN S 5 then mA w 19 (12 * (20 + o) + (j - 12 * o)) else mA w 33 j) (v32 : ∀ j, mA v 32 j = if j = o then 1 else mA w 32 j) (v35 : ∀ j, mA v 35 j = if j = o then nI (pkn S o).length else mA w 35 j) (v34 : ∀ k x, (pkn S o)[k]? = some x → mA v 34 (300 * o + k) = 1000 * x.2.1 + x.2.2.1) (v34' : ∀ j, (j < 300 * o ∨ 300 * o + 300 ≤ j) → mA v 34 j = mA w 34 j) : ∃ k', k' ≤ k + 12 ∧ Rel B k' U v := by
  have h8 := h.or.1
  have h12 := h.lo.1
  obtain ⟨a1, a2, a3, a4, a5, a6, a7, a8, a9, a10, a11, a12, a13, k', a14, a15, a16⟩ := hU
  obtain ⟨p1, p2, p3, p4, p5, p6, p7⟩ := hT
  have hA : ∀ f, f ≠ 7 ∧ f ≠ 705 ∧ f ≠ 706 ∧ f ≠ 1114 ∧ f ≠ 1118 → zA U f = zA S f := fun f hf => by
    rw [a1 f hf.1, e3, fAA hf.2.2.1, fAA hf.2.1, fAA hf.2.2.2.2, p1 f hf.2.2.2.1]
  have hO : ∀ f, True → zO U f = zO S f := fun f _ => by rw [a2, e3, tOA, tOA, tOA, p2]
  have hL : ∀ f, True → zL U f = zL S f := fun f _ => by rw [a3, e3, tLA, tLA, tLA, p3]
  have hN : ∀ f, f ≠ 60 ∧ f ≠ 61 ∧ f ≠ 62 → zN U f = zN S f := fun f hf => by rw [a5 f hf, e3, tNA, tNA, tNA, p6]
  have c3 : zC T3 = zC T := by rw [e3, tCA, tCA, tCA]
  have o3 : zO T3 = zO S := by rw [e3, tOA, tOA, tOA, p2]
  have hC : ∀ f, f ≠ 0 ∧ f ≠ 1 ∧ f ≠ 2 ∧ f ≠ 5 ∧ f ≠ 1111 ∧ f ≠ 1112 ∧ f ≠ 1113 → zC U f = zC S f := fun f hf => by
    rw [a7 f ⟨hf.1, hf.2.1, hf.2.2.1, hf.2.2.2.1, hf.2.2.2.2.1, hf.2.2.2.2.2.1⟩, c3, p7 f hf.2.2.2.2.2.2]
  have d0 : zC T3 0 = zC S 0 := by rw [c3, p7 0 (by decide)]
  have d1 : zC T3 1 = zC S 1 := by rw [c3, p7 1 (by decide)]
  have d2 : zC T3 2 = zC S 2 := by rw [c3, p7 2 (by decide)]
  have d5 : zC T3 5 = zC S 5 := by rw [c3, p7 5 (by decide)]
  have d11 : zC T3 1111 = zC S 1111 := by rw [c3, p7 1111 (by decide)]
  have d12 : zC T3 1112 = zC S 1112 := by rw [c3, p7 1112 (by decide)]
  have it3 : ∀ l, itS T3 l = itS S l := fun l => by unfold itS; rw [o3]
  rw [d0] at a9 a10 a12 a13
  rw [d1] at a10; rw [d2] at a11; rw [d5] at a8; rw [d11] at a13; rw [d12] at a12
  simp only [it3] at a10 a12
  have u705 : ∀ q, zA U 705 q = if q = o then 1 else zA S 705 q := fun q => by
    rw [a1 705 (by decide), e3, fAA (by decide), sAA, fAA (by decide), p1 705 (by decide)]
  have u706 : ∀ q, zA U 706 q = if q = o then zA S 1115 0 else zA S 706 q := fun q => by
    rw [a1 706 (by decide), e3, sAA, fAA (by decide), fAA (by decide), p1 706 (by decide)]
  have u1118 : zA U 1118 0 = b := by rw [a1 1118 (by decide), e3, fAA (by decide), fAA (by decide), sAA, if_pos rfl]
  have u7 : ∀ q, zA S 705 q = 0 ∨ zA S 705 q = 1 → True := fun _ _ => trivial
  have hI : ∀ f, f ≠ 0 ∧ f ≠ 2 → mI v f = mI w f := vI
  have hB := vA
  have C0 : ∀ j, zC U 0 j = if 12 * (20 + o) ≤ j ∧ j < 12 * (20 + o) + zN S 5 then 0 else zC S 0 j := fun j => by
    by_cases q : 12 * (20 + o) ≤ j ∧ j < 12 * (20 + o) + zN S 5
    · rw [if_pos q]; exact (a9 j).1 q
    · rw [if_neg q]; exact (a9 j).2 q
  obtain ⟨bk1, bk2, bk3⟩ := h.bk
  have C1z : ∀ i', i' < 6 → zC S 1 (6 * (20 + o) + i') = sm (List.range (zN S 5)) (fun l => if itS S l = i' then zC S 0 (12 * (20 + o) + l) else 0) := fun i' hi' => bk2 (20 + o) i' (by omega) hi'
  have sc : g_sc U v := by
    obtain ⟨s1, s2, s3⟩ := h.sc
    unfold g_sc
    rw [hA 1116 (by decide), hA 1117 (by decide), u1118, hI 1 (by decide), hI 3 (by decide), v2]
    exact ⟨s1, rfl, s3⟩
  have aw : g_aw U v := by
    obtain ⟨s1, s2⟩ := h.aw
    have e11 : ∀ o' l, o' < 8 → l < 12 → zC U 1111 (12 * o' + l) = if o' = o ∧ l < zN S 5 then zC S 0 (12 * (20 + o) + l) else zC S 1111 (12 * o' + l) := fun o' l ho' hl => by
      rw [a13 o' l ho' hl]
      by_cases q : o' = o ∧ l < zN S 5
      · rw [if_pos q, if_pos q, s2 o' l ho' hl (fun _ => by rw [q.1]; exact h5), Int32.zero_add]
      · rw [if_neg q, if_neg q]
    refine ⟨fun j hj => ?_, fun o' l ho' hl hs => ?_⟩
    · obtain ⟨o', l, e, h1, h2⟩ : ∃ o' l, j = 12 * o' + l ∧ o' < 8 ∧ l < 12 := ⟨j / 12, j % 12, by omega, by omega, by omega⟩
      rw [e, e11 o' l h1 h2, v33]
      by_cases q : o' = o ∧ l < zN S 5
      · rw [if_pos q, if_pos (by omega), ← bk1 _ (by omega)]
        congr 1; omega
      · rw [if_neg q, if_neg (by omega)]; exact s1 _ (by omega)
    · rw [e11 o' l ho' hl]
      rw [u705, hN 7 (by decide)] at hs
      by_cases q : o' = o
      · have := hs (by omega)
        rw [if_pos q] at this; exact absurd this (by decide)
      · rw [if_neg (fun r => q r.1)]
        refine s2 o' l ho' hl fun r => ?_
        have := hs r
        rw [if_neg q] at this; exact this
  have or : g_or U v := by
    obtain ⟨n1, n2, n3, n4, n5, n6⟩ := h.or
    unfold g_or
    rw [hN 7 (by decide), hN 72 (by decide), hL 1106 trivial, hI 27 (by decide), hA 700 (by decide), hA 701 (by decide), hA 702 (by decide), hA 703 (by decide), hB 28 (by decide), hB 29 (by decide), hB 30 (by decide), hB 31 (by decide)]
    refine ⟨n1, n2, n3, n4, fun q hq => ?_, fun q h1 h2 => ?_⟩
    · obtain ⟨b1, b2, b3, b4, b5, b6, b7, b8⟩ := n5 q hq
      rw [u705, v32]
      refine ⟨b1, b2, b3, b4, b5, ?_, ?_, b8⟩
      · rw [b6]
      · split
        · exact Or.inr rfl
        · exact b7
    · rw [v32, if_neg (by omega)]; exact n6 q h1 h2
  have bk : g_bk U v := by
    unfold g_bk
    rw [hN 5 (by decide)]
    refine ⟨fun j hj => by rw [C0, v19, bk1 j hj], fun p i' hp hi' => ?_, fun p l hp h1 h2 => ?_⟩
    · rw [a10 p i' hp hi']
      by_cases q : p = 20 + o
      · rw [if_pos q, q, C1z i' hi', Int32.sub_self, sm_0]
        intro l hl
        have := List.mem_range.mp hl
        rw [C0, if_pos (show 12 * (20 + o) ≤ 12 * (20 + o) + l ∧ 12 * (20 + o) + l < 12 * (20 + o) + zN S 5 by omega), ite_self]
      · rw [if_neg q, bk2 p i' hp hi']
        refine sm_cg _ fun l hl => ?_
        have := List.mem_range.mp hl
        rw [itS_O (hO 501 trivial), C0, if_neg (show ¬ (12 * (20 + o) ≤ 12 * p + l ∧ 12 * p + l < 12 * (20 + o) + zN S 5) by omega)]
    · rw [C0, bk3 p l hp h1 h2, ite_self]
  have nn : g_nn B U := by
    obtain ⟨n1, n2, n3⟩ := h.nn
    refine ⟨n1, fun j hj => ?_, fun j hj => ?_⟩
    · rw [C0]; split
      · exact ⟨by decide, by have := n2 j hj; exact Int.le_trans this.1 this.2⟩
      · exact n2 j hj
    · rw [a11 j hj]; exact n3 j hj
  have tr : g_tr U v := by
    obtain ⟨r1, r2⟩ := h.tr
    refine ⟨fun j hj => ?_, fun j h1 h2 => ?_⟩
    · rw [a11 j (by omega), hB 20 (by decide)]; exact r1 j hj
    · rw [a11 j h2, C0, if_neg (by omega)]; exact r2 j h1 h2
  have db : g_db U v := fun j hj => by rw [a8 j hj, hB 21 (by decide)]; exact h.db j hj
  have mv : g_mv U k' := ⟨by omega, a15.1, a15.2.1, a15.2.2.1, a15.2.2.2.1, a15.2.2.2.2, a16⟩
  have hoo : g_ho U v := by
    obtain ⟨n1, n2, n3⟩ := h.ho
    unfold g_ho hasO
    simp only [hL_eq]
    rw [hL 1107 trivial, hN 2 (by decide), hA 204 (by decide), hN 5 (by decide), hO 203 trivial, hA 202 (by decide), hO 200 trivial, hO 201 trivial, hO 205 trivial, hN 7 (by decide), hL 704 trivial, hN 10 (by decide), hO 1002 trivial, hA 1005 (by decide), hA 1004 (by decide)]
    refine ⟨n1, fun x hx => ?_, n3⟩
    obtain ⟨b1, b2, b3, b4, b5, b6⟩ := n2 x hx
    refine ⟨b1, b2, b3, b4, ?_, b6⟩
    rcases b5 with b5 | ⟨o', j, p, g1, g2, g3, g4, g5, g6⟩
    · exact Or.inl b5
    · refine Or.inr ⟨o', j, p, g1, g2, g3, g4, ?_, g6⟩
      have : o' ≠ o := fun r => hno x hx (r ▸ g1)
      rw [u705, if_neg this]; exact g5
  have hs : g_hs U v := by
    obtain ⟨s1, s2⟩ := h.hs
    unfold g_hs hpc
    simp only [hL_eq]
    rw [hC 3 (by decide), hL 1107 trivial, hA 202 (by decide), hO 203 trivial, hA 204 (by decide), hN 4 (by decide), hA 402 (by decide), hO 201 trivial]
    refine ⟨fun q l' hq hl' => ?_, s2⟩
    rw [C0, if_neg (by omega)]; exact s1 q l' hq hl'
  have st : g_st U v := by
    obtain ⟨s1, s2⟩ := h.st
    unfold g_st
    rw [hN 7 (by decide), hN 5 (by decide), hL 704 trivial, hA 403 (by decide)]
    refine ⟨fun q hq hs => ?_, fun q l hq hl hs => ?_⟩
    · rw [u705] at hs
      by_cases e : q = o
      · rw [if_pos e] at hs; exact absurd hs (by decide)
      · rw [if_neg e] at hs
        rw [sz_cg (y := fun l => (zC S 0 (12 * (20 + q) + l)).toInt) _ fun l hl => by rw [C0, if_neg (by have := List.mem_range.mp hl; omega)]]
        exact s1 q hq hs
    · rw [C0]
      by_cases e : q = o
      · subst e
        by_cases e2 : l < zN S 5
        · rw [if_pos (by omega)]
        · rw [if_neg (by omega)]; exact bk3 (20 + q) l (by omega) (by omega) hl
      · rw [if_neg (by omega)]
        refine s2 q l hq hl fun r => ?_
        have := hs r
        rw [u705, if_neg e] at this; exact this
  have bx : g_bx U v := by
    obtain ⟨x1, x2, x3⟩ := h.bx
    have C12 : ∀ o' i', o' < 8 → i' < 6 → zC U 1112 (6 * o' + i') = if o' = o then zC S 1 (6 * (20 + o) + i') else zC S 1112 (6 * o' + i') := fun o' i' ho' hi' => by
      rw [a12 o' i' ho' hi']
      by_cases q : o' = o
      · rw [if_pos q, if_pos q, q, x2 o i' (by omega) hi' (fun _ => h5), Int32.zero_add, C1z i' hi']
      · rw [if_neg q, if_neg q]
    have pk1 : pkd U o = pkn S o := by
      unfold pkd pkn
      rw [hA 302 (by decide), hA 303 (by decide), hA 304 (by decide), u706, if_pos rfl]
      have key : ∀ (c c' : Nat → Nat), (∀ i, i < 6 → c i = c' i) → ∀ k, pkS (zA S 302) (zA S 303) (zA S 304) (zA S 1115 0) c k = pkS (zA S 302) (zA S 303) (zA S 304) (zA S 1115 0) c' k := fun c c' hc k => by
        induction k with
        | zero => rfl
        | succ k ih => rw [pkS, pkS, ih, hc (k % 6) (Nat.mod_lt _ (by decide))]
      refine key _ _ (fun i hi => ?_) 54
      show (zC U 1112 (6 * o + i)).toNatClampNeg = _
      rw [C12 o i (by omega) hi, if_pos rfl]; rfl
    have pk2 : ∀ q, q < 8 → q ≠ o → pkd U q = pkd S q := fun q hq hqo => by
      unfold pkd
      rw [hA 302 (by decide), hA 303 (by decide), hA 304 (by decide), u706, if_neg hqo]
      have key : ∀ (c c' : Nat → Nat), (∀ i, i < 6 → c i = c' i) → ∀ k, pkS (zA S 302) (zA S 303) (zA S 304) (zA S 706 q) c k = pkS (zA S 302) (zA S 303) (zA S 304) (zA S 706 q) c' k := fun c c' hc k => by
        induction k with
        | zero => rfl
        | succ k ih => rw [pkS, pkS, ih, hc (k % 6) (Nat.mod_lt _ (by decide))]
      refine key _ _ (fun i hi => ?_) 54
      show (zC U 1112 (6 * q + i)).toNatClampNeg = (zC S 1112 (6 * q + i)).toNatClampNeg
      rw [C12 q i hq hi, if_neg hqo]
    unfold g_bx
    rw [hN 7 (by decide), hN 5 (by decide)]
    refine ⟨fun q hq hs => ?_, fun q i hq hi hs => ?_, fun q i hq hi hs => ?_⟩
    · by_cases e : q = o
      · subst e
        rw [pk1, v35, if_pos rfl]
        have ss := h.stSum ho h5
        have t : ∀ i, i < 6 → (stC S q i : Int) = (zC S 1 (6 * (20 + q) + i)).toInt := fun i hi => tn_toInt (h.n1 (by omega) hi)
        refine ⟨fun i hi => ?_, ?_, rfl, v34⟩
        · rw [C12 q i (by omega) hi, if_pos rfl]; exact h.n1 (by omega) hi
        · rw [sz_cg (y := fun i => (stC S q i : Int)) _ fun i hi => by
            rw [C12 q i (by omega) (List.mem_range.mp hi), if_pos rfl, t i (List.mem_range.mp hi)]]
          simp [List.range, List.range.loop, sz]
          omega
      · rw [u705, if_neg e] at hs
        obtain ⟨y1, y2, y3, y4⟩ := x1 q hq hs
        rw [pk2 q (by omega) e, v35, if_neg e]
        refine ⟨fun i hi => ?_, ?_, y3, fun k x hx => ?_⟩
        · rw [C12 q i (by omega) hi, if_neg e]; exact y1 i hi
        · rw [sz_cg (y := fun i => (zC S 1112 (6 * q + i)).toInt) _ fun i hi => by rw [C12 q i (by omega) (List.mem_range.mp hi), if_neg e]]
          exact y2
        · have hlk : (pkd S q).length ≤ 297 := by
            have hz : ∀ i, i < 6 → tI (zA S 302 i) 1 9 := fun i hi => (h.it i hi).2.2.2.2.2.2.1
            have one : ∀ c : Nat → Nat, ∀ i, dk (zA S 302) c 54 i ≤ c i := fun c i => by unfold dk; split <;> omega
            have t : ∀ i, i < 6 → (((zC S 1112 (6 * q + i)).toNatClampNeg : Nat) : Int) = (zC S 1112 (6 * q + i)).toInt := fun i hi => tn_toInt (y1 i hi)
            have p1 := pk_len (t := zA S 303) (g := zA S 304) (b := zA S 706 q) (c := fun i => (zC S 1112 (6 * q + i)).toNatClampNeg) hz 54 (Nat.le_refl _)
            have e6 : sz (List.range 6) (fun i => (zC S 1112 (6 * q + i)).toInt) = (zC S 1112 (6 * q + 0)).toInt + (zC S 1112 (6 * q + 1)).toInt + (zC S 1112 (6 * q + 2)).toInt + (zC S 1112 (6 * q + 3)).toInt + (zC S 1112 (6 * q + 4)).toInt + (zC S 1112 (6 * q + 5)).toInt := by
              simp [List.range, List.range.loop, sz]
              omega
            rw [e6, ← t 0 (by decide), ← t 1 (by decide), ← t 2 (by decide), ← t 3 (by decide), ← t 4 (by decide), ← t 5 (by decide)] at y2
            have o0 := one (fun i => (zC S 1112 (6 * q + i)).toNatClampNeg) 0; have o1 := one (fun i => (zC S 1112 (6 * q + i)).toNatClampNeg) 1; have o2 := one (fun i => (zC S 1112 (6 * q + i)).toNatClampNeg) 2; have o3 := one (fun i => (zC S 1112 (6 * q + i)).toNatClampNeg) 3; have o4 := one (fun i => (zC S 1112 (6 * q + i)).toNatClampNeg) 4; have o5 := one (fun i => (zC S 1112 (6 * q + i)).toNatClampNeg) 5
            unfold pkd
            unfold dks at p1
            omega
          have := (List.getElem?_eq_some_iff.mp hx).1
          rw [v34' _ (by omega)]; exact y4 k x hx
    · rw [u705] at hs
      by_cases e : q = o
      · have := hs (by omega)
        rw [if_pos e] at this; exact absurd this (by decide)
      · rw [C12 q i hq hi, if_neg e]
        refine x2 q i hq hi fun r => ?_
        have := hs r
        rw [if_neg e] at this; exact this
    · rw [C12 q i hq hi] at hs
      simp only [itS_O (hO 501 trivial)]
      by_cases e : q = o
      · rw [if_pos e, C1z i hi] at hs
        refine Classical.byContradiction fun r => hs (sm_0 _ fun l hl => if_neg fun r2 => r ⟨l, List.mem_range.mp hl, r2⟩)
      · rw [if_neg e] at hs
        exact x3 q i hq hi hs
  exact ⟨k', by omega, ⟨(cg_sl (hA 900 (by decide)) (hA 901 (by decide)) (hA 903 (by decide)) (hA 904 (by decide)) (hO 902 (by decide)) (hB 4 (by decide)) (hB 5 (by decide)) (hB 6 (by decide)) (hB 7 (by decide)) (hB 8 (by decide)) h.sl), (cg_it (hA 300 (by decide)) (hA 301 (by decide)) (hA 302 (by decide)) (hA 303 (by decide)) (hA 304 (by decide)) (hA 305 (by decide)) (hB 9 (by decide)) (hB 10 (by decide)) (hB 11 (by decide)) (hB 12 (by decide)) (hB 13 (by decide)) h.it), (cg_ba (hA 1115 (by decide)) (hB 14 (by decide)) h.ba), sc, (cg_lo (hN 5 (by decide)) (hL 1103 (by decide)) (hA 500 (by decide)) (hA 502 (by decide)) (hA 503 (by decide)) (hO 501 (by decide)) (hI 15 (by decide)) (hB 16 (by decide)) (hB 17 (by decide)) (hB 18 (by decide)) h.lo), (cg_be (hL 1104 (by decide)) (hN 5 (by decide)) (hA 502 (by decide)) h.be), (cg_no (hN 6 (by decide)) (hL 1105 (by decide)) (hO 600 (by decide)) (hA 601 (by decide)) (hA 602 (by decide)) (hI 22 (by decide)) (hB 23 (by decide)) (hB 24 (by decide)) (hB 25 (by decide)) h.no), (cg_ca (hC 1110 (by decide)) (hB 26 (by decide)) h.ca), aw, or, (cg_li (hN 7 (by decide)) (hL 704 (by decide)) (hN 4 (by decide)) (hO 400 (by decide)) (hA 401 (by decide)) (hA 402 (by decide)) (hA 403 (by decide)) (hB 31 (by decide)) (hB 36 (by decide)) (hB 37 (by decide)) (hB 38 (by decide)) h.li), bk, nn, tr, db, mv, hoo, hs, (cg_hm (hI 39 (by decide)) (hL 1107 (by decide)) (hO 200 (by decide)) (hO 201 (by decide)) (hO 203 (by decide)) (hL 704 (by decide)) (hA 202 (by decide)) (hA 204 (by decide)) (hO 205 (by decide)) (hB 40 (by decide)) (hB 41 (by decide)) (hB 42 (by decide)) (hB 43 (by decide)) (hB 44 (by decide)) h.hm), (cg_ta (hN 10 (by decide)) (hL 1108 (by decide)) (hI 45 (by decide)) (hA 1000 (by decide)) (hA 1001 (by decide)) (hA 1003 (by decide)) (hA 1004 (by decide)) (hA 1005 (by decide)) (hA 1006 (by decide)) (hO 1002 (by decide)) (hN 2 (by decide)) (hO 203 (by decide)) (hN 5 (by decide)) (hL 1107 (by decide)) (hO 205 (by decide)) (hO 200 (by decide)) (hO 201 (by decide)) (hA 202 (by decide)) (hN 7 (by decide)) (hL 704 (by decide)) (hB 46 (by decide)) (hB 47 (by decide)) (hB 48 (by decide)) (hB 49 (by decide)) (hB 50 (by decide)) (hB 51 (by decide)) (hB 52 (by decide)) (hB 54 (by decide)) h.ta), (cg_ap (hC 4 (by decide)) (hN 10 (by decide)) (hA 1005 (by decide)) (hA 1001 (by decide)) (hA 1003 (by decide)) (hA 1004 (by decide)) (hO 501 (by decide)) (hO 203 (by decide)) (hO 1002 (by decide)) (hO 902 (by decide)) h.ap), (cg_ro (hA 801 (by decide)) (hA 802 (by decide)) (hL 800 (by decide)) (hA 1005 (by decide)) (hN 10 (by decide)) (hB 53 (by decide)) (hB 55 (by decide)) (hB 56 (by decide)) (hB 58 (by decide)) (hB 59 (by decide)) h.ro), st, bx⟩⟩
end
