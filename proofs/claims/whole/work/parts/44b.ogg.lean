section
variable {m : Nat} {S T : Ss} {w v : MS}
theorem zP_pN (k a : Nat) (S : Ss) : zP (pN k a S) = zP S := rfl
theorem zA_pN (k a : Nat) (S : Ss) : zA (pN k a S) = zA S := rfl
theorem zN_pN (k a : Nat) (S : Ss) (q : Nat) : zN (pN k a S) q = if q = k then a else zN S q := rfl
theorem zP_pL (f i : Nat) (l : List Nat) (c : Nat) (S : Ss) : zP (pL f i l c S) = u2 f i c (zP S) := rfl
theorem oT_P (S : Ss) (x y z : Int32) : zP (oT S x y z) = u2 704 (zN S 7) 0 (zP S) := rfl
theorem oT_L (S : Ss) (x y z : Int32) : zL (oT S x y z) = u2 704 (zN S 7) [] (zL S) := rfl
theorem oT_61 (S : Ss) (x y z : Int32) : zN (oT S x y z) 61 = zN S 61 + 1 + 1 := rfl
theorem oT_62 (S : Ss) (x y z : Int32) : zN (oT S x y z) 62 = zN S 62 + 7 + 3 := rfl
theorem oL_P {S : Ss} (h : zP S 704 (zN S 7) = 0) (c : Nat) (x y z : Int32) (f i : Nat) : zP (oL S c x y z) f i = if f = 1106 ∧ i = 0 then c else zP S f i := by
  unfold oL
  rw [zP_pL, oT_P, u2_at, u2_at]
  by_cases q : f = 1106 ∧ i = 0
  · rw [if_pos q, if_pos q]
  · rw [if_neg q, if_neg q]
    by_cases q' : f = 704 ∧ i = zN S 7
    · rw [if_pos q', q'.1, q'.2, h]
    · rw [if_neg q']
theorem o_gg (g : GG m S w) (hm : m < 512) (hn : zN S 7 < 8) {x y z : Int32} (h1 : inI x 0 9 = true) (hy : y = 0 ∨ y = 1) {a b c : Nat} (ha : a ≤ zN (oT S x y z) 61 + 1) (hb : b + 4 * zP (oT S x y z) 1106 0 ≤ zN (oT S x y z) 62 + 4 * c) (hc2 : zP (oT S x y z) 1106 0 ≤ 3900 → ((zL (oT S x y z) 1106 0).length = zP (oT S x y z) 1106 0 → zP (oT S x y z) 1106 0 < 2600) → c ≤ 3900) : GG (m + 1) (pN 61 a (pN 62 b (oL S c x y z))) (oV S w x y z) := by
  obtain ⟨-, -, hcp, B, k, hB, -, h⟩ := id g
  have h0 : zP S 704 (zN S 7) = 0 := (hcp.2.2 _ hn).2 (Nat.le_refl _)
  have e6 : zP (oT S x y z) 1106 0 = zP S 1106 0 := by rw [oT_P, u2_at, if_neg (fun r => absurd r.1 (by decide))]
  have e7 : zL (oT S x y z) 1106 0 = zL S 1106 0 := by rw [oT_L, u2_at, if_neg (fun r => absurd r.1 (by decide))]
  rw [oT_61] at ha
  rw [e6, oT_62] at hb
  rw [e6, e7] at hc2
  have hP := oL_P h0 c x y z
  have hQ : ∀ f i, zP (pN 61 a (pN 62 b (oL S c x y z))) f i = if f = 1106 ∧ i = 0 then c else zP S f i := fun f i => by rw [zP_pN, zP_pN]; exact hP f i
  have hA : ∀ f i, zA (pN 61 a (pN 62 b (oL S c x y z))) f i = zA (oL S c x y z) f i := fun f i => by rw [zA_pN, zA_pN]
  have hN : ∀ q, q ≠ 61 ∧ q ≠ 62 → zN (pN 61 a (pN 62 b (oL S c x y z))) q = zN (oL S c x y z) q := fun q hq => by rw [zN_pN, if_neg hq.1, zN_pN, if_neg hq.2]
  have hc9 : c ≤ 3900 := hc2 (hcp.1 1106 (by decide) (by decide)) fun q => by
    have := h.nor; omega
  have t705 : ∀ o, zA (pN 61 a (pN 62 b (oL S c x y z))) 705 o = if o = zN S 7 then 0 else zA S 705 o := fun o => by rw [hA, oL_705]
  refine g.gen hm ?_ ?_ ?_ ?_ ?_ fun B k hB hR => ⟨B, by omega, Rel.cost (o_rel hR hn h1 hy) a b⟩
  · rw [hN 60 (by decide), oL_N S c x y z 60 (by decide)]
  · rw [zN_pN, if_pos rfl]; omega
  · have e1 := cap_1106_0 (S := S) (T := pN 61 a (pN 62 b (oL S c x y z))) (c := c) (fun f i q => by rw [hQ, if_neg q]) (by rw [hQ, if_pos ⟨rfl, rfl⟩])
    rw [zN_pN, if_neg (by decide), zN_pN, if_pos rfl]
    omega
  · unfold g_cp
    rw [hN 7 (by decide), oL_N7]
    refine And.intro (fun f h1 h2 => ?_) (And.intro (fun r hr => ?_) fun o ho => And.intro ?_ fun ho' => ?_)
    · rw [hQ]; split
      · exact hc9
      · exact hcp.1 f h1 h2
    · rw [hQ, if_neg (fun r => absurd r.1 (by decide))]; exact hcp.2.1 r hr
    · rw [hQ, if_neg (fun r => absurd r.1 (by decide))]; exact (hcp.2.2 o ho).1
    · rw [hQ, if_neg (fun r => absurd r.1 (by decide))]; exact (hcp.2.2 o ho).2 (by omega)
  · have e1 := cT_eq (S := S) (T := pN 61 a (pN 62 b (oL S c x y z))) (fun t => by rw [hA, oL_Af S c x y z 1005 (by decide)]) (fun t => by rw [hA, oL_Af S c x y z 1006 (by decide)]) (zN S 10)
    have e2 := cS_lt (S := S) (T := pN 61 a (pN 62 b (oL S c x y z))) (zN S 7) fun t ht => by
      rw [t705, if_neg (by omega)]
    rw [hN 10 (by decide), oL_N S c x y z 10 (by decide), hN 7 (by decide), oL_N7, e1, cS, e2, t705, if_pos rfl, if_neg (by decide)]
    rfl
end
