section
variable {m : Nat} {S T : Ss} {w v : MS}
def l1T (S : Ss) (i : Nat) (y : Int32) : Ss := pA 502 (zN S 5) y (pO 501 (zN S 5) (some i) (pA 500 (zN S 5) (nI (zN S 5)) (pNew 5 4 S)))
def ltT (S : Ss) (i : Nat) (y : Int32) (p c d : Nat) : Ss := pL 1103 0 (List.range (zN S 5 + 1)) d (pL 1104 0 (lIns p (zN S 5) (zL S 1104 0)) c (l1T S i y))
def ltV (S : Ss) (w : MS) (i : Nat) (y : Int32) : MS := mSI 15 (nI (zN S 5 + 1)) (mSA 17 (zN S 5) y (mSA 16 (zN S 5) (nI i) w))
theorem l1_A {i : Nat} {y : Int32} {f : Nat} (hf : f / 100 ≠ 5) : zA (l1T S i y) f = zA S f := by
  unfold l1T; rw [fAA (by intro e; subst e; exact hf rfl), tAO, fAA (by intro e; subst e; exact hf rfl), nA hf]
theorem l1_O {i : Nat} {y : Int32} {f : Nat} (hf : f / 100 ≠ 5) : zO (l1T S i y) f = zO S f := by
  unfold l1T; rw [tOA, fOO (by intro e; subst e; exact hf rfl), tOA, nO hf]
theorem l1_L {i : Nat} {y : Int32} : zL (l1T S i y) = zL S := rfl
theorem l1_P {i : Nat} {y : Int32} : zP (l1T S i y) = zP S := rfl
theorem l1_N {i : Nat} {y : Int32} {f : Nat} (h : f ≠ 5 ∧ f ≠ 61 ∧ f ≠ 62) : zN (l1T S i y) f = zN S f := nN h
theorem l1_502 {i : Nat} {y : Int32} {l : Nat} : zA (l1T S i y) 502 l = if l = zN S 5 then y else zA S 502 l := by
  unfold l1T; rw [sAA, tAO, fAA (by decide), nA']
  by_cases q : l = zN S 5
  · rw [if_pos q, if_pos q]
  · rw [if_neg q, if_neg q, if_neg (fun r => q r.2)]
theorem Rel.lot {B k : Nat} (h : Rel B k S w) {i : Nat} (hi : i < 6) {y : Int32} (hn : zN S 5 < 12) {p : Nat} (hp : p ≤ (zL S 1104 0).length) (h1 : ∀ x, x ∈ (zL S 1104 0).take p → (zA S 502 x).toInt ≤ y.toInt) (h2 : ∀ x, x ∈ (zL S 1104 0).drop p → y.toInt < (zA S 502 x).toInt) (c d : Nat) : Rel B k (ltT S i y p c d) (ltV S w i y) := by
  have hA : ∀ f, f / 100 ≠ 5 → zA (ltT S i y p c d) f = zA S f := fun f hf => by unfold ltT; rw [tAL, tAL, l1_A hf]
  have hO : ∀ f, f / 100 ≠ 5 → zO (ltT S i y p c d) f = zO S f := fun f hf => by unfold ltT; rw [tOL, tOL, l1_O hf]
  have hL : ∀ f, f ≠ 1103 ∧ f ≠ 1104 → zL (ltT S i y p c d) f = zL S f := fun f hf => by unfold ltT; rw [fLL hf.1, fLL hf.2, l1_L]
  have hC : ∀ f, True → zC (ltT S i y p c d) f = zC S f := fun f _ => rfl
  have hN : ∀ f, f ≠ 5 ∧ f ≠ 61 ∧ f ≠ 62 → zN (ltT S i y p c d) f = zN S f := fun f hf => by unfold ltT; rw [tNL, tNL, l1_N hf]
  have hM : zM (ltT S i y p c d) = zM S := rfl
  have hI : ∀ f, f ≠ 15 → mI (ltV S w i y) f = mI w f := fun f hf => by unfold ltV; rw [fII hf]; rfl
  have hB : ∀ f, f ≠ 16 ∧ f ≠ 17 → mA (ltV S w i y) f = mA w f := fun f hf => by unfold ltV; rw [tBI, fBA hf.2, fBA hf.1]
  have eN : zN (ltT S i y p c d) 5 = zN S 5 + 1 := rfl
  have e502 : ∀ l, zA (ltT S i y p c d) 502 l = if l = zN S 5 then y else zA S 502 l := fun l => by unfold ltT; rw [tAL, tAL, l1_502]
  have e500 : ∀ l, zA (ltT S i y p c d) 500 l = if l = zN S 5 then nI (zN S 5) else zA S 500 l := fun l => by
    unfold ltT l1T; rw [tAL, tAL, fAA (by decide), tAO, sAA, nA']
    by_cases q : l = zN S 5
    · rw [if_pos q, if_pos q]
    · rw [if_neg q, if_neg q, if_neg (fun r => q r.2)]
  have e503 : ∀ l, zA (ltT S i y p c d) 503 l = if l = zN S 5 then 0 else zA S 503 l := fun l => by
    unfold ltT l1T; rw [tAL, tAL, fAA (by decide), tAO, fAA (by decide), nA']
    by_cases q : l = zN S 5
    · rw [if_pos q, if_pos ⟨rfl, q⟩]
    · rw [if_neg q, if_neg (fun r => q r.2)]
  have e501 : ∀ l, zO (ltT S i y p c d) 501 l = if l = zN S 5 then some i else zO S 501 l := fun l => by
    unfold ltT l1T; rw [tOL, tOL, tOA, sOO, tOA, nO']
    by_cases q : l = zN S 5
    · rw [if_pos q, if_pos q]
    · rw [if_neg q, if_neg q, if_neg (fun r => q r.2)]
  have eI : ∀ l, itS (ltT S i y p c d) l = if l = zN S 5 then i else itS S l := fun l => by
    unfold itS; rw [e501]; split <;> rfl
  have e17 : ∀ l, mA (ltV S w i y) 17 l = if l = zN S 5 then y else mA w 17 l := fun l => by unfold ltV; rw [tBI, sBA, fBA (by decide)]
  have e16 : ∀ l, mA (ltV S w i y) 16 l = if l = zN S 5 then nI i else mA w 16 l := fun l => by unfold ltV; rw [tBI, fBA (by decide), sBA]
  obtain ⟨n1, n2, n3, n4, n5⟩ := h.lo
  have lo : g_lo (ltT S i y p c d) (ltV S w i y) := by
    unfold g_lo
    rw [eN, hB 18 (by decide)]
    refine ⟨by omega, rfl, rfl, fun l hl => ?_, fun l hl1 hl2 => n5 l (by omega) hl2⟩
    rw [eI, e500, e501, e502, e503, e16, e17]
    by_cases q : l = zN S 5
    · simp only [q, ↓reduceIte]
      exact ⟨trivial, trivial, n5 _ (Nat.le_refl _) hn, Or.inl rfl, trivial, hi, trivial⟩
    · simp only [q, ↓reduceIte]
      exact n4 l (by omega)
  obtain ⟨p1, p2⟩ := h.be
  have hx : ∀ x, x ∈ zL S 1104 0 → x < zN S 5 := fun x hx => List.mem_range.mp (p1.mem_iff.mp hx)
  have be : g_be (ltT S i y p c d) (ltV S w i y) := by
    have eL : zL (ltT S i y p c d) 1104 0 = lIns p (zN S 5) (zL S 1104 0) := by
      unfold ltT; rw [fLL (by decide), sLL, if_pos rfl]
    unfold g_be
    rw [eL, eN]
    unfold lIns
    have lt2 : ∀ a b, a < zN S 5 → b < zN S 5 → ltE (zA S 502) a b → ltE (zA (ltT S i y p c d) 502) a b := fun a b ha hb r => by
      unfold ltE at r ⊢
      rw [e502, e502, if_neg (by omega), if_neg (by omega)]; exact r
    have sp := List.take_append_drop p (zL S 1104 0)
    have pw : ((zL S 1104 0).take p ++ (zL S 1104 0).drop p).Pairwise (ltE (zA S 502)) := by rw [sp]; exact p2
    rw [List.pairwise_append] at pw
    obtain ⟨q1, q2, q3⟩ := pw
    refine ⟨?_, ?_⟩
    · refine (List.perm_middle).trans ?_
      rw [sp, List.range_succ]
      exact ((p1.cons _).trans (List.perm_append_comm (l₁ := [zN S 5])))
    · rw [List.pairwise_append, List.pairwise_cons]
      refine ⟨q1.imp_of_mem fun ha hb r => lt2 _ _ (hx _ (List.mem_of_mem_take ha)) (hx _ (List.mem_of_mem_take hb)) r, ⟨fun z hz => ?_, q2.imp_of_mem fun ha hb r => lt2 _ _ (hx _ (List.mem_of_mem_drop ha)) (hx _ (List.mem_of_mem_drop hb)) r⟩, fun a ha z hz => ?_⟩
      · have := hx z (List.mem_of_mem_drop hz)
        left; rw [e502, e502, if_pos rfl, if_neg (by omega)]; exact h2 z hz
      · have hax := hx a (List.mem_of_mem_take ha)
        rcases List.mem_cons.mp hz with e | e
        · have := h1 a ha
          unfold ltE
          rw [e, e502, e502, if_pos rfl, if_neg (by omega)]
          by_cases q : (zA S 502 a).toInt < y.toInt
          · exact Or.inl q
          · exact Or.inr ⟨Int32.toInt_inj.mp (by omega), hax⟩
        · exact lt2 _ _ hax (hx _ (List.mem_of_mem_drop e)) (q3 a ha z e)
  obtain ⟨b1, b2, b3⟩ := h.bk
  have bk : g_bk (ltT S i y p c d) (ltV S w i y) := by
    unfold g_bk
    rw [hC 0 (by decide), hC 1 (by decide), hB 19 (by decide), eN]
    refine ⟨b1, fun q j hq hj => ?_, fun q l hq hl1 hl2 => b3 q l hq (by omega) hl2⟩
    rw [b2 q j hq hj, List.range_succ, sm_app, eI, if_pos rfl, b3 q _ hq (Nat.le_refl _) hn]
    rw [show (if i = j then (0 : Int32) else 0) = 0 by split <;> rfl, Int32.add_zero]
    refine sm_cg _ fun l hl => ?_
    have := List.mem_range.mp hl
    simp only [eI, show ¬ l = zN S 5 by omega, ↓reduceIte]
  have st : g_st (ltT S i y p c d) (ltV S w i y) := by
    obtain ⟨s1, s2⟩ := h.st
    unfold g_st
    rw [hC 0 (by decide), eN, hN 7 (by decide), hA 705 (by decide), hA 403 (by decide), hL 704 (by decide)]
    refine ⟨fun o ho hs => ?_, s2⟩
    have h8 := h.or.1
    rw [List.range_succ, sz_app, b3 (20 + o) _ (by omega) (Nat.le_refl _) hn]
    have := s1 o ho hs
    show _ + (0 : Int) ≤ _
    omega
  have ex : EX S (ltT S i y p c d) w (ltV S w i y) := by
    unfold EX
    refine ⟨by show zL _ 1107 0 = zL _ 1107 0; rw [hL 1107 (by decide)], hN 10 (by decide), Nat.le_of_eq (hN 2 (by decide)).symm, by rw [eN]; omega, Nat.le_of_eq (hN 7 (by decide)).symm, fun f x hf => ⟨by rw [hA f (by omega)], by rw [hO f (by omega)]⟩, by rw [hL 1108 (by decide)], fun q hq => ⟨by rw [hA 705 (by decide)], ⟨[], by rw [List.append_nil, hL 704 (by decide)]⟩⟩, hI 39 (by decide), hI 45 (by decide), fun k h1 h2 => hB k (by omega)⟩
  have ap : g_ap (ltT S i y p c d) (ltV S w i y) := by
    obtain ⟨a1, a2⟩ := h.ap
    have eT : ∀ t, lotT (ltT S i y p c d) t = lotT S t := fun t => by unfold lotT; rw [hO 203 (by decide), hO 1002 (by decide)]
    have eIt : ∀ t, t < zN S 10 → itS (ltT S i y p c d) (lotT S t) = itS S (lotT S t) := fun t ht => by
      rw [eI, if_neg]; have := (h.lotI ht).1; omega
    unfold g_ap onT apc
    simp only [eT]
    rw [hC 4 (by decide), hN 10 (by decide), hA 1005 (by decide), hA 1001 (by decide), hA 1003 (by decide), hA 1004 (by decide), hO 902 (by decide)]
    refine ⟨fun s j hs hj => ?_, fun t s j ht hs h1 h2 h3 => ?_⟩
    · rw [a1 s j hs hj]
      refine sm_cg _ fun t ht => ?_
      unfold apc
      rw [eIt t (List.mem_range.mp ht)]
    · rw [eIt t ht]; exact a2 t s j ht hs h1 h2 h3
  have bx : g_bx (ltT S i y p c d) (ltV S w i y) := by
    obtain ⟨x1, x2, x3⟩ := h.bx
    unfold g_bx pkd
    rw [hN 7 (by decide), eN, hA 705 (by decide), hA 706 (by decide), hA 302 (by decide), hA 303 (by decide), hA 304 (by decide), hC 1112 trivial, hB 34 (by decide), hB 35 (by decide)]
    refine ⟨x1, x2, fun o j ho hj hq => ?_⟩
    obtain ⟨l, l1, l2⟩ := x3 o j ho hj hq
    exact ⟨l, by omega, by rw [eI, if_neg (by omega)]; exact l2⟩
  exact ⟨(cg_sl (hA 900 (by decide)) (hA 901 (by decide)) (hA 903 (by decide)) (hA 904 (by decide)) (hO 902 (by decide)) (hB 4 (by decide)) (hB 5 (by decide)) (hB 6 (by decide)) (hB 7 (by decide)) (hB 8 (by decide)) h.sl), (cg_it (hA 300 (by decide)) (hA 301 (by decide)) (hA 302 (by decide)) (hA 303 (by decide)) (hA 304 (by decide)) (hA 305 (by decide)) (hB 9 (by decide)) (hB 10 (by decide)) (hB 11 (by decide)) (hB 12 (by decide)) (hB 13 (by decide)) h.it), (cg_ba (hA 1115 (by decide)) (hB 14 (by decide)) h.ba), (cg_sc (hA 1116 (by decide)) (hA 1118 (by decide)) (hA 1117 (by decide)) (hI 1 (by decide)) (hI 2 (by decide)) (hI 3 (by decide)) h.sc), lo, be, (cg_no (hN 6 (by decide)) (hL 1105 (by decide)) (hO 600 (by decide)) (hA 601 (by decide)) (hA 602 (by decide)) (hI 22 (by decide)) (hB 23 (by decide)) (hB 24 (by decide)) (hB 25 (by decide)) h.no), (cg_ca (hC 1110 (by decide)) (hB 26 (by decide)) h.ca), (cg_aw (hC 1111 (by decide)) (hN 7 (by decide)) (hA 705 (by decide)) (hB 33 (by decide)) h.aw), (cg_or (hN 7 (by decide)) (hN 72 (by decide)) (hL 1106 (by decide)) (hA 700 (by decide)) (hA 701 (by decide)) (hA 702 (by decide)) (hA 703 (by decide)) (hA 705 (by decide)) (hI 27 (by decide)) (hB 28 (by decide)) (hB 29 (by decide)) (hB 30 (by decide)) (hB 31 (by decide)) (hB 32 (by decide)) h.or), (cg_li (hN 7 (by decide)) (hL 704 (by decide)) (hN 4 (by decide)) (hO 400 (by decide)) (hA 401 (by decide)) (hA 402 (by decide)) (hA 403 (by decide)) (hB 31 (by decide)) (hB 36 (by decide)) (hB 37 (by decide)) (hB 38 (by decide)) h.li), bk, (cg_nn (hC 0 (by decide)) (hC 2 (by decide)) h.nn), (cg_tr (hC 2 (by decide)) (hC 0 (by decide)) (hB 20 (by decide)) h.tr), (cg_db (hC 5 (by decide)) (hB 21 (by decide)) h.db), (cg_mv (hA 7 (by decide)) (hN 60 (by decide)) hM (hC 0 (by decide)) h.mv), ex.ho h.ho, (cg_hs (hC 3 (by decide)) (hL 1107 (by decide)) (hA 202 (by decide)) (hO 203 (by decide)) (hA 204 (by decide)) (hC 0 (by decide)) (hN 4 (by decide)) (hA 402 (by decide)) (hO 201 (by decide)) h.hs), ex.hm h.ho h.hm, ex.ta h.ta, ap, (cg_ro (hA 801 (by decide)) (hA 802 (by decide)) (hL 800 (by decide)) (hA 1005 (by decide)) (hN 10 (by decide)) (hB 53 (by decide)) (hB 55 (by decide)) (hB 56 (by decide)) (hB 58 (by decide)) (hB 59 (by decide)) h.ro), st, bx⟩
theorem r_mlins {R : Type} {f i p e : Nat} {k : MM R} (h : (zL S f i).length < 2600) (hp : p ≤ (zL S f i).length) : (mlins f i (nI p) e k).1 S = k.1 (pIns f i p e S) := by
  have e2 : (nI p).toNatClampNeg = p := nI_clamp (by omega)
  show (if ((zL S f i).length = zP S f i → zP S f i < 2600) ∧ ¬ nI p < 0 ∧ (nI p).toNatClampNeg ≤ (zL S f i).length then mst (pIns f i (nI p).toNatClampNeg e) (pIns_le f i _ e) k else mfail).1 S = _
  rw [if_pos ⟨fun q => by omega, nI_pos (by omega), by rw [e2]; exact hp⟩, e2]; rfl
theorem lt_gg (g : GG m S w) (hm : m < 512) {i : Nat} (hi : i < 6) {y : Int32} (hn : zN S 5 < 12) {p : Nat} (hp : p ≤ (zL S 1104 0).length) (h1 : ∀ x, x ∈ (zL S 1104 0).take p → (zA S 502 x).toInt ≤ y.toInt) (h2 : ∀ x, x ∈ (zL S 1104 0).drop p → y.toInt < (zA S 502 x).toInt) {a b c d : Nat} (ha : a ≤ zN S 61 + 3) (hb : b + 4 * zP S 1104 0 + 4 * zP S 1103 0 ≤ zN S 62 + 4 + 4 * c + 4 * d) (hc9 : c ≤ 3900) (hd9 : d ≤ 3900) : GG (m + 1) (pN 61 a (pN 62 b (ltT S i y p c d))) (ltV S (mSI 0 0 w) i y) := by
  obtain ⟨-, -, hcp, B, k, hB, -, h⟩ := id g
  have hP2 : ∀ f q, zP (pL 1104 0 (lIns p (zN S 5) (zL S 1104 0)) c (l1T S i y)) f q = if f = 1104 ∧ q = 0 then c else zP S f q := fun f q => u2_at ..
  have hP : ∀ f q, zP (pN 61 a (pN 62 b (ltT S i y p c d))) f q = if f = 1103 ∧ q = 0 then d else zP (pL 1104 0 (lIns p (zN S 5) (zL S 1104 0)) c (l1T S i y)) f q := fun f q => by
    rw [tPN, tPN]; exact u2_at ..
  have hA : ∀ f, f / 100 ≠ 5 → zA (pN 61 a (pN 62 b (ltT S i y p c d))) f = zA S f := fun f hf => by
    rw [tAN, tAN]; unfold ltT; rw [tAL, tAL, l1_A hf]
  have hN : ∀ f, f ≠ 5 ∧ f ≠ 61 ∧ f ≠ 62 → zN (pN 61 a (pN 62 b (ltT S i y p c d))) f = zN S f := fun f hf => by
    rw [fNN hf.2.1, fNN hf.2.2]; unfold ltT; rw [tNL, tNL, l1_N hf]
  refine g.gen hm (hN 60 (by decide)) ?_ ?_ ?_ ?_ fun B k hB hR => ⟨B, by omega, Rel.cost ((hR.thr 0).lot hi hn hp h1 h2 c d) _ _⟩
  · rw [sNN]; omega
  · have e1 := cap_1104_0 (S := S) (T := pL 1104 0 (lIns p (zN S 5) (zL S 1104 0)) c (l1T S i y)) (c := c) (fun f i q => by rw [hP2, if_neg q]) (by rw [hP2, if_pos ⟨rfl, rfl⟩])
    have e2 := cap_1103_0 (S := pL 1104 0 (lIns p (zN S 5) (zL S 1104 0)) c (l1T S i y)) (T := pN 61 a (pN 62 b (ltT S i y p c d))) (c := d) (fun f i q => by rw [hP, if_neg q]) (by rw [hP, if_pos ⟨rfl, rfl⟩])
    rw [hP2, if_neg (by decide)] at e2
    rw [fNN (by decide), sNN]
    omega
  · unfold g_cp
    rw [hN 7 (by decide)]
    refine ⟨fun f h1 h2 => ?_, fun q hq => ?_, fun q hq => ?_⟩
    · rw [hP, hP2]; split
      · exact hd9
      · split
        · exact hc9
        · exact hcp.1 f h1 h2
    · rw [hP, hP2, if_neg (by omega), if_neg (by omega)]; exact hcp.2.1 q hq
    · rw [hP, hP2, if_neg (by omega), if_neg (by omega)]; exact hcp.2.2 q hq
  · have e1 := cT_eq (S := S) (T := pN 61 a (pN 62 b (ltT S i y p c d))) (fun t => by rw [hA 1005 (by decide)]) (fun t => by rw [hA 1006 (by decide)]) (zN S 10)
    have e2 := cS_eq (S := S) (T := pN 61 a (pN 62 b (ltT S i y p c d))) (fun t => by rw [hA 705 (by decide)]) (zN S 7)
    rw [hN 10 (by decide), hN 7 (by decide), e1, e2]
theorem l1_61 {i : Nat} {y : Int32} : zN (l1T S i y) 61 = zN S 61 + 1 := by unfold l1T; rw [tNA, tNO, tNA]; exact nN1 (by decide)
theorem l1_62 {i : Nat} {y : Int32} : zN (l1T S i y) 62 = zN S 62 + 4 := by unfold l1T; rw [tNA, tNO, tNA]; exact nN2 (by decide)
theorem ltV_0 {i : Nat} {y : Int32} : mI (ltV S (mSI 0 0 w) i y) 0 = 0 := by unfold ltV; rw [fII (by decide), tIB, tIB, sII]
theorem ltV_eq {i : Nat} {y : Int32} : mSI 15 (nI (zN S 5 + 1)) (mSA 17 (zN S 5) y (mSA 16 (zN S 5) (nI i) w)) = ltV S w i y := rfl
theorem l1T_eq {i : Nat} {y : Int32} : pA 502 (zN S 5) y (pO 501 (zN S 5) (some i) (pA 500 (zN S 5) (nI (zN S 5)) (pNew 5 4 S))) = l1T S i y := rfl
theorem ltT_eq {i p c d : Nat} {y : Int32} : pL 1103 0 (List.range (zN S 5 + 1)) d (pL 1104 0 (lIns p (zN S 5) (zL S 1104 0)) c (l1T S i y)) = ltT S i y p c d := rfl
theorem Ss_ext {S T : Ss} (h1 : zA T = zA S) (h2 : zO T = zO S) (h3 : zL T = zL S) (h4 : zP T = zP S) (h5 : zC T = zC S) (h6 : zM T = zM S) (h7 : zN T = zN S) : T = S := by
  have e : ∀ U : Ss, U = (zA U, zO U, zL U, zP U, zC U, zM U, zN U) := fun U => rfl
  exact (e T).trans ((by rw [h1, h2, h3, h4, h5, h6, h7] : (zA T, zO T, zL T, zP T, zC T, zM T, zN T) = (zA S, zO S, zL S, zP S, zC S, zM S, zN S)).trans (e S).symm)
theorem tLL' {f i c : Nat} {x : List Nat} : zL (pL f i x c S) = u2 f i x (zL S) := rfl
theorem tPL' {f i c : Nat} {x : List Nat} : zP (pL f i x c S) = u2 f i c (zP S) := rfl
theorem tNN' {f x : Nat} : zN (pN f x S) = u1 f x (zN S) := rfl
theorem pNpL {a b a' b' f i d : Nat} {xs : List Nat} {U : Ss} : pN 61 a' (pN 62 b' (pL f i xs d (pN 61 a (pN 62 b U)))) = pN 61 a' (pN 62 b' (pL f i xs d U)) := by
  have e9 : ∀ N : Nat → Nat, u1 61 a' (u1 62 b' (u1 61 a (u1 62 b N))) = u1 61 a' (u1 62 b' N) := fun N => by
    funext q; rw [u1_at, u1_at, u1_at, u1_at, u1_at, u1_at]
    by_cases q1 : q = 61
    · rw [if_pos q1, if_pos q1]
    · by_cases q2 : q = 62
      · rw [if_neg q1, if_pos q2, if_neg q1, if_pos q2]
      · rw [if_neg q1, if_neg q2, if_neg q1, if_neg q2, if_neg q1, if_neg q2]
  refine Ss_ext ?_ ?_ ?_ ?_ ?_ ?_ ?_
  · rw [tAN, tAN, tAL, tAN, tAN, tAN, tAN, tAL]
  · rw [tON, tON, tOL, tON, tON, tON, tON, tOL]
  · rw [tLN, tLN, tLL', tLN, tLN, tLN, tLN, tLL']
  · rw [tPN, tPN, tPL', tPN, tPN, tPN, tPN, tPL']
  · rw [tCN, tCN, tCL, tCN, tCN, tCN, tCN, tCL]
  · rw [tMN, tMN, tML, tMN, tMN, tMN, tMN, tML]
  · rw [tNN', tNN', tNL, tNN', tNN', tNN', tNN', tNL, e9]
theorem ltV_15 {i : Nat} {y : Int32} : mI (ltV S w i y) 15 = nI (zN S 5 + 1) := sII
theorem s_lot (g : GG m S w) (hm : m < 512) (x y : Int32) : STi GG m S w (f_X11_lot x y) (g_X12_lot x y) [(1, 1), (2, 2), (3, 3)] := by
  obtain ⟨-, -, hcp, B, k, hB, -, h⟩ := id g
  have h12 := h.lo.1
  cases h1 : okI x 6 with
  | false =>
    refine sti_th g hm (u := 1) (c := 1) (r := 0) ?_ ?_ (by simp) (by decide) (by decide)
    · simp only [f_X11_lot, r_mb, bnd_s, r_mrd, r_mbo, r_mret, r_mthr, r_wA, r_wO, r_madd, r_mput, r_mopt, r_mcn, r_mcs, ite_f, e_isWithin, e_isSlot, e_isItem, e_isGroup, e_isRobot, e_isLot, e_isNotice, e_isOrder, e_isTask, bI_t, bI_f, i10, i00, i01, i11, i20, i30, ↓reduceIte, h1]; try rfl
    · simp only [g_X12_lot_41, g_X12_lot, kif, r_gb, gbn_s, r_grd, r_gbo, r_gret, r_gst, k_isIn, k_isSlot, k_isItem, k_isGroup, k_isRobot, k_are, k_holds0, k_holds1, k_holds2, k_holds3, k_bit, k_less, bI_t, bI_f, i10, i00, i01, i11, i20, i30, ↓reduceIte, h1]; try rfl
  | true =>
    cases h2 : inI y 0 9999 with
    | false =>
      refine sti_th g hm (u := 2) (c := 2) (r := 0) ?_ ?_ (by simp) (by decide) (by decide)
      · simp only [f_X11_lot, r_mb, bnd_s, r_mrd, r_mbo, r_mret, r_mthr, r_wA, r_wO, r_madd, r_mput, r_mopt, r_mcn, r_mcs, ite_f, e_isWithin, e_isSlot, e_isItem, e_isGroup, e_isRobot, e_isLot, e_isNotice, e_isOrder, e_isTask, bI_t, bI_f, i10, i00, i01, i11, i20, i30, ↓reduceIte, h1, h2]; try rfl
      · simp only [g_X12_lot_41, g_X12_lot, kif, r_gb, gbn_s, r_grd, r_gbo, r_gret, r_gst, k_isIn, k_isSlot, k_isItem, k_isGroup, k_isRobot, k_are, k_holds0, k_holds1, k_holds2, k_holds3, k_bit, k_less, bI_t, bI_f, i10, i00, i01, i11, i20, i30, ↓reduceIte, h1, h2]; try rfl
    | true =>
      obtain ⟨i, hi, rfl⟩ := okI_t (by decide) h1
      by_cases h3 : zN S 5 = 12
      · refine sti_th g hm (u := 3) (c := 3) (r := 0) ?_ ?_ (by simp) (by decide) (by decide)
        · simp only [f_X11_lot, r_mb, bnd_s, r_mrd, r_mbo, r_mret, r_mthr, r_wA, r_wO, r_madd, r_mput, r_mopt, r_mcn, r_mcs, ite_f, e_isWithin, e_isSlot, e_isItem, e_isGroup, e_isRobot, e_isLot, e_isNotice, e_isOrder, e_isTask, bI_t, bI_f, i10, i00, i01, i11, i20, i30, ↓reduceIte, h1, h2, h.nl, h3, show ¬ nI 12 < (12 : Int32) by decide]; try rfl
        · simp only [g_X12_lot_41, g_X12_lot, kif, r_gb, gbn_s, r_grd, r_gbo, r_gret, r_gst, k_isIn, k_isSlot, k_isItem, k_isGroup, k_isRobot, k_are, k_holds0, k_holds1, k_holds2, k_holds3, k_bit, k_less, bI_t, bI_f, i10, i00, i01, i11, i20, i30, ↓reduceIte, h1, h2, h.lo.2.2.1, h3, show nI 12 = (12 : Int32) from rfl]; try rfl
      · have hn : zN S 5 < 12 := by omega
        have hlt : nI (zN S 5) < 12 := nI_lt (b := 12) hn (by decide)
        have hne : ¬ nI (zN S 5) = 12 := fun q => h3 ((nI_eq (b := 12) (by omega) (by decide)).mp q)
        obtain ⟨p1, p2⟩ := h.be
        have hlen : (zL S 1104 0).length = zN S 5 := by rw [p1.length_eq, List.length_range]
        have hmem : ∀ x, x ∈ zL S 1104 0 → x < zN S 5 := fun x hx => List.mem_range.mp (p1.mem_iff.mp hx)
        have hL1 : zL (l1T S i y) 1104 0 = zL S 1104 0 := by rw [l1_L]
        have hget : ∀ k, k < zN S 5 → ∃ z, (zL S 1104 0)[k]? = some z ∧ zA (l1T S i y) 502 z = zA S 502 z := fun k hk => by
          refine ⟨(zL S 1104 0)[k]'(by omega), List.getElem?_eq_getElem _, ?_⟩
          have := hmem _ (List.getElem_mem (by omega : k < (zL S 1104 0).length))
          rw [l1_502, if_neg (by omega)]
        obtain ⟨p, hp, hp1, hp2, hrun⟩ : ∃ p, p ≤ (zL S 1104 0).length ∧ (∀ x, x ∈ (zL S 1104 0).take p → (zA S 502 x).toInt ≤ y.toInt) ∧ (∀ x, x ∈ (zL S 1104 0).drop p → y.toInt < (zA S 502 x).toInt) ∧ (f_X11_lot_79 FU y (zN S 5) 0).1 (l1T S i y) = (f_X11_lot_116 (zN S 5) (nI p)).1 (l1T S i y) := by
          have key := m_find (fun f j => f_X11_lot_79 f y (zN S 5) j) (l1T S i y) (zN S 5) (fun k => y < zA S 502 (((zL S 1104 0)[k]?).getD 0)) (fun k => (f_X11_lot_116 (zN S 5) (nI k)).1 (l1T S i y)) ((f_X11_lot_116 (zN S 5) (nI (zN S 5))).1 (l1T S i y)) (fun f k hk q => by
            obtain ⟨z, hz, hz2⟩ := hget k hk
            rw [hz] at q
            have q' : y < zA S 502 z := q
            simp only [f_X11_lot_79, r_mb, bnd_s, r_mrd, r_mbo, r_mret, r_mthr, r_wA, r_wO, r_madd, r_mput, r_mopt, r_mcn, r_mcs, ite_f, e_isWithin, e_isSlot, e_isItem, e_isGroup, e_isRobot, e_isLot, e_isNotice, e_isOrder, e_isTask, bI_t, bI_f, i10, i00, i01, i11, i20, i30, ↓reduceIte, hL1, hlen, nI_ge hk (show zN S 5 < 2 ^ 31 by omega), mlget, lAt_n (show k < 2 ^ 31 by omega) hz, hz2, q']) (fun f k hk q => by
            obtain ⟨z, hz, hz2⟩ := hget k hk
            rw [hz] at q
            have q' : ¬ y < zA S 502 z := q
            simp only [f_X11_lot_79, r_mb, bnd_s, r_mrd, r_mbo, r_mret, r_mthr, r_wA, r_wO, r_madd, r_mput, r_mopt, r_mcn, r_mcs, ite_f, e_isWithin, e_isSlot, e_isItem, e_isGroup, e_isRobot, e_isLot, e_isNotice, e_isOrder, e_isTask, bI_t, bI_f, i10, i00, i01, i11, i20, i30, ↓reduceIte, hL1, hlen, nI_ge hk (show zN S 5 < 2 ^ 31 by omega), mlget, lAt_n (show k < 2 ^ 31 by omega) hz, hz2, q', nI_1]) (fun f => by
            simp only [f_X11_lot_79, r_mb, bnd_s, r_mrd, r_mbo, r_mret, r_mthr, r_wA, r_wO, r_madd, r_mput, r_mopt, r_mcn, r_mcs, ite_f, e_isWithin, e_isSlot, e_isItem, e_isGroup, e_isRobot, e_isLot, e_isNotice, e_isOrder, e_isTask, bI_t, bI_f, i10, i00, i01, i11, i20, i30, ↓reduceIte, hL1, hlen, Int32.le_refl]) FU (FU_gt (by omega))
          have tk : ∀ p, p ≤ zN S 5 → (∀ j, j < p → ¬ y < zA S 502 (((zL S 1104 0)[j]?).getD 0)) → ∀ x, x ∈ (zL S 1104 0).take p → (zA S 502 x).toInt ≤ y.toInt := fun p hp hq x hx => by
            obtain ⟨j, hj, hjx⟩ := List.mem_iff_getElem.mp hx
            rw [List.length_take] at hj
            rw [List.getElem_take] at hjx
            have := hq j (by omega)
            rw [List.getElem?_eq_getElem (by omega), hjx] at this
            have this' : ¬ y < zA S 502 x := this
            rw [I_lt] at this'; omega
          rcases key with ⟨p, a1, a2, a3, a4⟩ | ⟨a1, a2⟩
          · refine ⟨p, by omega, tk p (by omega) a3, fun x hx => ?_, a4⟩
            obtain ⟨j, hj, hjx⟩ := List.mem_iff_getElem.mp hx
            rw [List.length_drop] at hj
            rw [List.getElem_drop] at hjx
            rw [List.getElem?_eq_getElem (by omega)] at a2
            have a2' : y < zA S 502 ((zL S 1104 0)[p]'(by omega)) := a2
            rw [I_lt] at a2'
            by_cases q : j = 0
            · subst q
              have : (zL S 1104 0)[p]'(by omega) = x := hjx
              rw [this] at a2'; exact a2'
            · have := List.pairwise_iff_getElem.mp p2 p (p + j) (by omega) (by omega) (by omega)
              rw [hjx] at this
              rcases this with r | ⟨r, -⟩
              · omega
              · rw [r] at a2'; exact a2'
          · refine ⟨zN S 5, by omega, tk _ (Nat.le_refl _) a1, fun x hx => ?_, a2⟩
            rw [List.drop_eq_nil_of_le (by omega)] at hx; cases hx
        obtain ⟨a, b, c, ea, ha, hb, hc, hc2⟩ := pIns_eq 1104 0 p (zN S 5) (l1T S i y)
        have hc9 : c ≤ 3900 := by
          rw [l1_P, l1_L] at hc2
          exact hc2 (hcp.1 1104 (by decide) (by decide)) fun q => by omega
        obtain ⟨a', b', d, ea', ha', hb', hd, hd2⟩ := pAdd_eq 1103 0 (zN S 5) (pN 61 a (pN 62 b (pL 1104 0 (lIns p (zN S 5) (zL S 1104 0)) c (l1T S i y))))
        have hP1 : zP (pN 61 a (pN 62 b (pL 1104 0 (lIns p (zN S 5) (zL S 1104 0)) c (l1T S i y)))) 1103 0 = zP S 1103 0 := by
          rw [tPN, tPN, fPL (by decide), l1_P]
        have hL3 : zL (pN 61 a (pN 62 b (pL 1104 0 (lIns p (zN S 5) (zL S 1104 0)) c (l1T S i y)))) 1103 0 = List.range (zN S 5) := by
          rw [tLN, tLN, fLL (by decide), l1_L]; exact h.lo.2.1
        rw [hL3, ← List.range_succ] at ea'
        rw [hL3, List.length_range, hP1] at hd2
        rw [hP1] at hb'
        have hd9 : d ≤ 3900 := hd2 (hcp.1 1103 (by decide) (by decide)) fun q => by omega
        have eT : pN 61 a' (pN 62 b' (pL 1103 0 (List.range (zN S 5 + 1)) d (pN 61 a (pN 62 b (pL 1104 0 (lIns p (zN S 5) (zL S 1104 0)) c (l1T S i y)))))) = pN 61 a' (pN 62 b' (ltT S i y p c d)) := by rw [pNpL, ltT_eq]
        have hrun2 : (f_X11_lot_116 (zN S 5) (nI p)).1 (l1T S i y) = some ((0, nI (zN S 5)), pN 61 a' (pN 62 b' (ltT S i y p c d))) := by
          unfold f_X11_lot_116
          rw [r_mlins (by rw [hL1]; omega) (by rw [hL1]; exact hp), ea, l1_L, r_mladd (by rw [hL3, List.length_range]; omega), ea', eT, r_mrd, r_mret]
          have : zA (pN 61 a' (pN 62 b' (ltT S i y p c d))) 500 (zN S 5) = nI (zN S 5) := by
            rw [tAN, tAN]; unfold ltT l1T; rw [tAL, tAL, fAA (by decide), tAO, sAA, if_pos rfl]
          rw [this]
        have e61 : zN (l1T S i y) 61 = zN S 61 + 1 := l1_61
        have e62 : zN (l1T S i y) 62 = zN S 62 + 4 := l1_62
        have z1 : zN (pN 61 a (pN 62 b (pL 1104 0 (lIns p (zN S 5) (zL S 1104 0)) c (l1T S i y)))) 61 = a := sNN
        have z2 : zN (pN 61 a (pN 62 b (pL 1104 0 (lIns p (zN S 5) (zL S 1104 0)) c (l1T S i y)))) 62 = b := by rw [fNN (by decide), sNN]
        rw [z1] at ha'
        rw [z2] at hb'
        rw [e61] at ha
        rw [e62, l1_P] at hb
        refine sti_st (T := pN 61 a' (pN 62 b' (ltT S i y p c d))) (v := ltV S (mSI 0 0 w) i y) (r := nI (zN S 5)) (lt_gg g hm hi hn hp hp1 hp2 (by omega) (by omega) hc9 hd9) ?_ ?_ ltV_0
        · simp only [f_X11_lot, r_mb, bnd_s, r_mrd, r_mbo, r_mret, r_mthr, r_wA, r_wO, r_madd, r_mput, r_mopt, r_mcn, r_mcs, ite_f, e_isWithin, e_isSlot, e_isItem, e_isGroup, e_isRobot, e_isLot, e_isNotice, e_isOrder, e_isTask, bI_t, bI_f, i10, i00, i01, i11, i20, i30, ↓reduceIte, h1, h2, h.nl, hlt, r_mnew, nL', r_mnI (show i < aLn 1101 from hi) (show aLn 1101 < 2 ^ 31 by decide), nI_clamp (show i < 2 ^ 31 by omega), f_X5_init, l1T_eq, hrun, hrun2]
        · simp only [g_X12_lot_41, g_X12_lot, kif, r_gb, gbn_s, r_grd, r_gbo, r_gret, r_gst, k_isIn, k_isSlot, k_isItem, k_isGroup, k_isRobot, k_are, k_holds0, k_holds1, k_holds2, k_holds3, k_bit, k_less, bI_t, bI_f, i10, i00, i01, i11, i20, i30, ↓reduceIte, mI_mSA, mI_mSI, mA_mSI, mA_mSA, Nat.reduceEqDiff, reduceCtorEq, Nat.reduceEqDiff, false_and, true_and, and_true, h1, h2, h.lo.2.2.1, hne, r_gnI (show zN S 5 < mL 16 from hn) (show mL 16 < 2 ^ 31 by decide), r_gnI (show zN S 5 < mL 17 from hn) (show mL 17 < 2 ^ 31 by decide), nI_clamp (show zN S 5 < 2 ^ 31 by omega), nI_1, ltV_eq, ltV_15, nI_pred]
end
