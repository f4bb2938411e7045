/-! a PICK is done -/
theorem sz_one {f g : Nat → Int} {x : Nat} {xs : List Nat} (hn : xs.Nodup) (hx : x ∈ xs) (h : ∀ a, a ∈ xs → a ≠ x → g a = f a) : sz xs g = sz xs f + (g x - f x) := by
  rw [sz_erase xs hx, sz_erase (z := f) xs hx, sz_cg (y := f) (xs.erase x) fun a ha => h a (hn.mem_erase_iff.mp ha).2 (hn.mem_erase_iff.mp ha).1]
  omega
section
variable {B k : Nat} {S T S1 Z A T1 U : Ss} {w v u w0 wz : MS}
theorem Rel.lnd (h : Rel B k S w) {o : Nat} (ho : o < zN S 7) : (zL S 704 o).Nodup := by
  refine List.pairwise_iff_getElem.mpr fun i j hi hj hij e => ?_
  have := h.li.2.1 o o i j ((zL S 704 o)[i]) ho ho (List.getElem?_eq_getElem hi) (by rw [e]; exact List.getElem?_eq_getElem hj)
  omega
theorem Rel.pickLi (h : Rel B k S w) {x0 o j : Nat} {n : Int32} {p1 : Nat → Int32} (hx0 : x0 ∈ hL S) (hj : zO S 201 x0 = some j) (ho7 : o < zN S 7) (hjm : j ∈ zL S 704 o) (hp : ∀ x, x ∈ hL S → tI (p1 x) 0 99 ∧ (p1 x).toInt ≤ (zA S 204 x).toInt) (p10 : p1 x0 = 0) (t1 : hL T = (hL S).filter fun x => decide (0 < p1 x)) (t2 : ∀ x, x ∈ hL S → zA T 204 x = p1 x) (T401 : zA T 401 = zA S 401) (T403 : ∀ q, zA T 403 q = if q = j then zA S 403 q + n else zA S 403 q) (hO1 : zO T = zO S) (hL7 : zL T 704 = zL S 704) (hN : zN T 7 = zN S 7 ∧ zN T 4 = zN S 4) (hB : ∀ k, k = 31 ∨ k = 36 ∨ k = 37 → mA u k = mA w k) (h38 : ∀ q, mA u 38 q = if q = lqS S o j then mA w 38 q + n else mA w 38 q) (t4 : CH T) (hn : tI n 0 99) (hnle : n.toInt ≤ (zA S 204 x0).toInt) : g_li T u := by
  have h8 := h.or.1
  obtain ⟨l1, l2, l3⟩ := h.li
  have e0 : (0 : Int32).toInt = 0 := rfl
  have tn := tI_of hn
  obtain ⟨p0, hp0, hpj, hq⟩ := h.lqO ho7 hjm
  have hlen := (List.getElem?_eq_some_iff.mp hpj).1
  have t1' : hL T = (hL S).filter fun x => decide (¬ p1 x = 0) := by
    rw [t1]
    refine List.filter_congr fun x hx => ?_
    rw [decide_eq_decide]; exact (pos_0 (tI_of (hp x hx).1).1).1
  have red := fun j' hj' => h.li_red (T := T) t1' (fun x hx _ => t2 x hx) (by rw [hO1]) (fun q hq => t4.2.1 q (by rw [hN.2]; exact hq)) hp j' hj'
  have jN := h.lnM ho7 hjm
  have red1 : (zA T 402 j).toInt + (zA S 204 x0).toInt ≤ (zA S 402 j).toInt := by
    obtain ⟨r1, r2, r3⟩ := red j jN
    rw [r2, ← (h.hs.2 j jN).2]
    have q1 := sz_erase (z := fun x => if zO S 201 x = some j then (p1 x).toInt else 0) (hL S) hx0
    have q2 := sz_erase (z := fun x => if zO S 201 x = some j then (zA S 204 x).toInt else 0) (hL S) hx0
    have q3 : sz ((hL S).erase x0) (fun x => if zO S 201 x = some j then (p1 x).toInt else 0) ≤ sz ((hL S).erase x0) (fun x => if zO S 201 x = some j then (zA S 204 x).toInt else 0) := sz_le _ fun x hx => by
      split
      · exact (hp x (List.mem_of_mem_erase hx)).2
      · exact Int.le_refl _
    simp only [hj, p10, e0, if_true] at q1 q2
    omega
  unfold g_li
  rw [T401, hO1, hL7, hN.1, hN.2, hB 31 (by decide), hB 36 (by decide), hB 37 (by decide)]
  refine ⟨fun o' ho' => ⟨(l1 o' ho').1, (l1 o' ho').2.1, fun p j' hj' => ?_⟩, l2, fun o' p ho' hp' hl' => ?_⟩
  · obtain ⟨c1, c2, c3, c4, c5, c6, c7, c8⟩ := (l1 o' ho').2.2 p j' hj'
    have hl3 := (l1 o' ho').1
    have hpl := (List.getElem?_eq_some_iff.mp hj').1
    obtain ⟨r1, r2, r3⟩ := red j' c1
    have t6 := tI_of c6
    have t7 := tI_of c7
    have t5 := tI_of c5
    refine ⟨c1, c2, c3, ?_, c5, ⟨r1, by omega⟩, ?_⟩
    · rw [h38, T403, hq]
      by_cases e : j' = j
      · rw [e] at hj'
        obtain ⟨u1, u2⟩ := l2 o' o p p0 j ho' ho7 hj' hpj
        rw [if_pos e, if_pos (by omega), c4]
      · rw [if_neg e, if_neg, c4]
        intro q
        have q1 : o' = o := by omega
        have q2 : p = p0 := by omega
        rw [q1, q2, hpj] at hj'
        exact e (Option.some.inj hj').symm
    · rw [T403]
      by_cases e : j' = j
      · rw [if_pos e, e]
        rw [e] at t6 t7 t5 c8 r3 r1
        have ea : (zA S 403 j + n).toInt = (zA S 403 j).toInt + n.toInt := add_toInt (by omega) (by omega)
        exact ⟨⟨by omega, by omega⟩, by omega⟩
      · rw [if_neg e]; exact ⟨c7, by omega⟩
  · rw [h38, hq, if_neg]
    · exact l3 o' p ho' hp' hl'
    · intro q
      have q1 : o' = o := by omega
      have q2 : p = p0 := by omega
      have := hl' (by omega)
      rw [q1, q2] at this
      omega
theorem Rel.pickSt (h : Rel B k S w) {o j l : Nat} {n : Int32} (ho7 : o < zN S 7) (hjm : j ∈ zL S 704 o) (h5 : zA S 705 o = 0) (hl : l < zN S 5) (c0 : ∀ o' l', o' < 8 → l' < 12 → zC T 0 (12 * (20 + o') + l') = if o' = o ∧ l' = l then zC S 0 (12 * (20 + o') + l') + n else zC S 0 (12 * (20 + o') + l')) (T705 : zA T 705 = zA S 705) (T403 : ∀ q, zA T 403 q = if q = j then zA S 403 q + n else zA S 403 q) (hL7 : zL T 704 = zL S 704) (hN : zN T 7 = zN S 7 ∧ zN T 5 = zN S 5) (hn : tI n 0 99) (hB9 : B + 99 ≤ 8000000) : g_st T u := by
  have h8 := h.or.1
  have h12 := h.lo.1
  obtain ⟨s1, s2⟩ := h.st
  have tn := tI_of hn
  unfold g_st
  rw [hN.1, hN.2, T705, hL7]
  refine ⟨fun o' ho' hu => ?_, fun o' l' ho' hl' hu => ?_⟩
  · have s1' := s1 o' ho' hu
    by_cases e : o' = o
    · rw [e] at s1' ⊢
      have q1 := sz_one (xs := List.range (zN S 5)) (x := l) (f := fun l' => (zC S 0 (12 * (20 + o) + l')).toInt) (g := fun l' => (zC T 0 (12 * (20 + o) + l')).toInt) List.nodup_range (List.mem_range.mpr hl) fun l' hl' hne => by
        have := List.mem_range.mp hl'
        rw [c0 o l' (by omega) (by omega), if_neg (fun q => hne q.2)]
      have q2 := sz_one (xs := zL S 704 o) (x := j) (f := fun j => (zA S 403 j).toInt) (g := fun j => (zA T 403 j).toInt) (h.lnd ho7) hjm fun j' _ hne => by
        rw [T403, if_neg hne]
      have b1 := tI_of (h.nn.2.1 (12 * (20 + o) + l) (by omega))
      obtain ⟨p0, hp0, hpj, -⟩ := h.lqO ho7 hjm
      have b2 := tI_of (((h.li.1 o ho7).2.2 p0 j hpj).2.2.2.2.2.2.1)
      rw [c0 o l (by omega) (by omega), if_pos ⟨rfl, rfl⟩, add_toInt (by omega) (by omega)] at q1
      rw [T403, if_pos rfl, add_toInt (by omega) (by omega)] at q2
      omega
    · rw [sz_cg (y := fun l' => (zC S 0 (12 * (20 + o') + l')).toInt) _ fun l' hl' => by
        have := List.mem_range.mp hl'
        rw [c0 o' l' (by omega) (by omega), if_neg (fun q => e q.1)]]
      rw [sz_cg (y := fun j => (zA S 403 j).toInt) (zL S 704 o') fun j' hj' => by
        rw [T403, if_neg]
        intro q
        rw [q] at hj'
        obtain ⟨p, hp, hpj⟩ := List.mem_iff_getElem.mp hj'
        obtain ⟨p0, hp0, hpj0, -⟩ := h.lqO ho7 hjm
        exact e (h.li.2.1 o' o p p0 j ho' ho7 (List.getElem?_eq_some_iff.mpr ⟨hp, hpj⟩) hpj0).1]
      exact s1'
  · rw [c0 o' l' ho' hl', if_neg]
    · exact s2 o' l' ho' hl' hu
    · rintro ⟨e, -⟩
      rw [e] at hu
      exact hu ho7 h5
noncomputable def dsK (w : MS) (x1 x2 : Int32) : GM Unit := gix x1 (mL 48) <| gbo ((12 * (mA w 48 x1.toNatClampNeg)) + x2 : Int32) fun x92 => gix x92 (mL 20) <| gix x1 (mL 51) <| gix x92 (mL 20) <| gst (mSA 20 x92.toNatClampNeg ((mA w 20 x92.toNatClampNeg) - (mA w 51 x1.toNatClampNeg))) <| grd fun w99 => gix x1 (mL 50) <| gbo (mA w99 50 x1.toNatClampNeg : Int32) fun x104 => gix x104 (mL 38) <| gix x1 (mL 51) <| gix x104 (mL 38) <| gst (mSA 38 x104.toNatClampNeg ((mA w99 38 x104.toNatClampNeg) + (mA w99 51 x1.toNatClampNeg))) <| grd fun w111 => gix x1 (mL 51) <| gb (g_X12_moves x1 (mA w111 51 x1.toNatClampNeg)) fun u116 => gret ()
noncomputable def dsZ (w : MS) (x1 : Int32) : GM Unit := gix x1 (mL 51) <| if (mA w 51 x1.toNatClampNeg) = 0 then gb (g_X12_ends x1 3) fun u87 => gret () else gix x1 (mL 54) <| gst (mSA 54 x1.toNatClampNeg 1) <| gret ()
theorem ds195_eq (x1 x2 : Int32) : g_X12_does_195 x1 x2 = grd fun w => gix x1 (mL 46) <| if (mA w 46 x1.toNatClampNeg) = 2 then dsK w x1 x2 else dsZ w x1 := rfl
theorem k_195k {t a l q : Nat} {n : Int32} (ht : t < 60) (ha : a < 18) (hl : l < 12) (hq : q < 24) (h46 : mA w 46 t = 2) (h48 : mA w 48 t = nI a) (h50 : mA w 50 t = nI q) (h51 : mA w 51 t = n) : g_X12_does_195 (nI t) (nI l) w = gbnV (g_X12_moves (nI t) n (mSA 38 q (mA w 38 q + n) (mSA 20 (12 * a + l) (mA w 20 (12 * a + l) - n) w))) := by
  have e12 : (12 : Int32) * nI a + nI l = nI (12 * a + l) := by rw [show (12 : Int32) = nI 12 from rfl, pk_mul, nI_add]
  have ct := nI_clamp (show t < 2 ^ 31 by omega)
  have ca := nI_clamp (show 12 * a + l < 2 ^ 31 by omega)
  have cq := nI_clamp (show q < 2 ^ 31 by omega)
  have ja : 12 * a + l < mL 20 := show 12 * a + l < 216 by omega
  rw [ds195_eq, r_grd, r_gnI (show t < mL 46 from ht) (show mL 46 < 2 ^ 31 by decide), ct, kif, if_pos h46]
  have f1 : ∀ f, f ≠ 20 → mA (mSA 20 (12 * a + l) (mA w 20 (12 * a + l) - n) w) f = mA w f := fun f hf => fBA hf
  have f2 : mA (mSA 38 q (mA w 38 q + n) (mSA 20 (12 * a + l) (mA w 20 (12 * a + l) - n) w)) 51 t = n := by rw [fBA (by decide), fBA (by decide)]; exact h51
  simp only [dsK, r_grd, r_gbo, r_gst, r_gnI (show t < mL 48 from ht) (show mL 48 < 2 ^ 31 by decide), r_gnI (show t < mL 51 from ht) (show mL 51 < 2 ^ 31 by decide), r_gnI (show t < mL 50 from ht) (show mL 50 < 2 ^ 31 by decide), r_gnI (show q < mL 38 from hq) (show mL 38 < 2 ^ 31 by decide), ct, h48, e12, r_gnI ja (show mL 20 < 2 ^ 31 by decide), ca, h51, f1 50 (by decide), f1 38 (by decide), f1 51 (by decide), h50, cq, f2, r_gb]
  rfl
end
