/-! allocate: the lines of an order -/
def need (S : Ss) (js : List Nat) (i : Nat) : Int := sz js fun j => if zO S 400 j = some i then lk S j else 0
def av (S : Ss) (o i : Nat) : Int := sz (List.range 12) fun l => if gd S o i l then sz (List.range 18) (fun s => fre S s l) else 0
def finA (S : Ss) (o : Nat) (x x3 : Int32) (c : Bool) (v : MS) : Option (Int32 × MS) := if zA S 702 o = 0 then some (x, v) else if c = false then some (x, v) else some (0, mSI 39 x3 v)
theorem i_bk (a b : Int32) : a - (a - b) = b := by
  rw [Int32.sub_eq_add_neg a b, ← Int32.sub_sub, Int32.sub_self, Int32.zero_sub, Int32.neg_neg]
section
variable {B k : Nat} {S T : Ss} {w v : MS}
theorem Rel.alLine (h : Rel B k S w) {o p j i H0 : Nat} (o7 : o < zN S 7) (hp : (zL S 704 o)[p]? = some j) (h705 : zA S 705 o = 0) (h400 : zO S 400 j = some i) (hi : i < 6) (hH : H0 ≤ ((hL S).filter (hasO S)).length) : ∃ T v, (f_X11_allocateLine o j).1 S = some (lck S j - lck T j, T) ∧ g_X12_holdsFor (nI o) (nI p) w = some (lck S j - lck T j, v) ∧ Rel B k T v ∧ AQ S T ∧ AV H0 w v ∧ AL S T ∧ LPj S T j (gd S o i) ∧ H0 ≤ ((hL T).filter (hasO T)).length ∧ (lk T j = 0 ∨ ∀ l, gd S o i l → ∀ s, s < 18 → fre T s l = 0) := by
  have h8 := h.or.1
  have h12 := h.lo.1
  obtain ⟨q1, q2, q3⟩ := h.lnE o7 hp
  obtain ⟨k1, k2, k3⟩ := h.lkB o7 hp
  have hlen : (zL S 1104 0).length = zN S 5 := by rw [h.be.1.length_eq, List.length_range]
  have hx : ((lck S j) - 0).toInt = lk S j := by rw [Int32.sub_zero]; exact k3
  obtain ⟨T, v, x6', c1, c2, c3, c4, c5, c6, c7, c8, c9, c10⟩ := lineL (B := B) (k := k) (o := o) (p := p) (j := j) (H0 := H0) (nI (3 * o + p)) (lck S j) hi (zL S 1104 0) [] S w 0 h rfl o7 hp h705 h400 (by rw [q1]) hx hH
  obtain ⟨t1, t2, t3⟩ := c3.lkB (o := o) (p := p) (j := j) (by rw [c5.2.2.2.2.2 7 (by decide)]; exact o7) (by rw [c5.2.2.1 704 (by decide)]; exact hp)
  have ex : x6' = lck S j - lck T j := by
    have : lck S j - x6' = lck T j := Int32.toInt_inj.mp (by rw [c4]; exact t3.symm)
    rw [← this, i_bk]
  subst ex
  have hF : (zL S 1104 0).length < FU := FU_gt (by omega)
  have e3 : (3 : Int32) * nI o + nI p = nI (3 * o + p) := by rw [show (3 : Int32) = nI 3 from rfl, pk_mul, nI_add]
  obtain ⟨-, ⟨i', -, d1, d2⟩, -⟩ := (h.li.1 o o7).2.2 p j hp
  have ei : i' = i := Option.some.inj (d1.symm.trans h400)
  subst ei
  have nx := h.kNextE (n := 0) hi none rfl
  have z0 : nE S i' [] = 0 := rfl
  have g1 := c2 FU hF
  rw [z0] at g1
  have s1 := c1 FU (lck S j) hF
  have z : nI ([] : List Nat).length = 0 := rfl
  rw [z] at s1
  have zn : fcI none = (-1 : Int32) := rfl
  rw [zn] at nx
  refine ⟨T, v, ?_, ?_, c3, c5, c6, c7, c8, c9, c10.imp id fun y l gl => y l (h.be.1.mem_iff.mpr (List.mem_range.mpr gl.1)) gl⟩
  · simp only [f_X11_allocateLine, r_mb, bnd_s, r_mrd, r_mbo, r_mret, r_mthr, r_wA, r_wO, r_madd, r_mput, r_mopt, r_mcn, r_mcs, ite_f, e_isWithin, e_isSlot, e_isItem, e_isGroup, e_isRobot, e_isLot, e_isNotice, e_isOrder, e_isTask, bI_t, bI_f, i10, i00, i01, i11, i20, i30, ↓reduceIte, e_lack, s1]
  · simp only [g_X12_holdsFor, kif, r_gb, gbn_s, r_grd, r_gbo, r_gret, r_gst, k_isIn, k_isSlot, k_isItem, k_isGroup, k_isRobot, k_are, k_holds0, k_holds1, k_holds2, k_holds3, k_bit, k_less, bI_t, bI_f, i10, i00, i01, i11, i20, i30, ↓reduceIte, e3, r_gnI (show 3 * o + p < mL 36 from show 3 * o + p < 24 by omega) (show mL 36 < 2 ^ 31 by decide), nI_clamp (show 3 * o + p < 2 ^ 31 by omega), d2, h.kLack o7 hp, nx, g1]
theorem av_gd (h : AQ S T) (o i : Nat) : av T o i = sz (List.range 12) fun l => if gd S o i l then sz (List.range 18) (fun s => fre T s l) else 0 := by
  refine sz_cg _ fun l _ => ?_
  have e := h.eGd o i l
  by_cases q : gd S o i l
  · rw [if_pos q, if_pos (e.mpr q)]
  · rw [if_neg q, if_neg (fun r => q (e.mp r))]
theorem av_ne (h : AQ S T) {j o i' i : Nat} (hl : LPj S T j (gd S o i')) (hne : i ≠ i') : av T o i = av S o i := by
  rw [av_gd h]
  refine sz_cg _ fun l hl1 => ?_
  by_cases q : gd S o i l
  · rw [if_pos q, if_pos q]
    exact sz_cg _ fun s hs => hl.2.2.2.1 s l (List.mem_range.mp hs) (List.mem_range.mp hl1) fun r => hne (q.2.1.symm.trans r.2.1)
  · rw [if_neg q, if_neg q]
theorem av_eq (h : AQ S T) {j o i : Nat} (hl : LPj S T j (gd S o i)) : av T o i = av S o i - (lk S j - lk T j) := by
  have sp : ∀ X : Ss, TF X = sz (List.range 12) (fun l => if gd S o i l then sz (List.range 18) (fun s => fre X s l) else 0) + sz (List.range 12) (fun l => if gd S o i l then 0 else sz (List.range 18) (fun s => fre X s l)) := fun X => by
    rw [← sz_add]
    refine sz_cg _ fun l _ => ?_
    by_cases q : gd S o i l
    · rw [if_pos q, if_pos q, Int.add_zero]
    · rw [if_neg q, if_neg q, Int.zero_add]
  have e1 := sp S
  have e2 := sp T
  have e3 : sz (List.range 12) (fun l => if gd S o i l then 0 else sz (List.range 18) (fun s => fre T s l)) = sz (List.range 12) (fun l => if gd S o i l then 0 else sz (List.range 18) (fun s => fre S s l)) := sz_cg _ fun l hl1 => by
    by_cases q : gd S o i l
    · rw [if_pos q, if_pos q]
    · rw [if_neg q, if_neg q]
      exact sz_cg _ fun s hs => hl.2.2.2.1 s l (List.mem_range.mp hs) (List.mem_range.mp hl1) q
  have e4 := hl.2.2.2.2
  have e5 := av_gd h o i
  have e6 := av_gd (AQ.rf S) o i
  rw [← e5] at e2
  rw [← e6] at e1
  omega
theorem Rel.av0 (h : Rel B k S w) (o i : Nat) : 0 ≤ av S o i := sz_0 _ fun l hl => by
  split
  · exact sz_0 _ fun s hs => (h.frB0 (List.mem_range.mp hs) (List.mem_range.mp hl)).1
  · exact Int.le_refl _
end
theorem orderL {B k o H0 : Nat} : ∀ (suf pre : List Nat) (S : Ss) (w : MS), Rel B k S w → zL S 704 o = pre ++ suf → o < zN S 7 → zA S 705 o = 0 → H0 ≤ ((hL S).filter (hasO S)).length → ∃ T v r b, (∀ f x, suf.length < f → (f_X11_allocateOrder_21 f o x (nI pre.length)).1 S = some (x + r, T)) ∧ (∀ f x x3 c, suf.length < f → g_X12_allocates_13 f (nI o) x x3 (bI c) (nI pre.length) w = finA S o (x + r) x3 (c || b) v) ∧ Rel B k T v ∧ AQ S T ∧ AV H0 w v ∧ AL S T ∧ (b = false ↔ ∀ i, i < 6 → need S suf i ≤ av S o i)
  | [], pre, S, w, h, hL1, o7, h705, hH => by
    rw [List.append_nil] at hL1
    have h8 := h.or.1
    obtain ⟨a1, a2, a3⟩ := h.li.1 o o7
    obtain ⟨-, -, c3, c4, -⟩ := h.or.2.2.2.2.1 o o7
    have h72 : decide (o < zN S 72) = true := decide_eq_true (by rw [h.or.2.1]; exact o7)
    have hr : (nI o).toNatClampNeg = o := nI_clamp (by omega)
    refine ⟨S, w, 0, false, fun f x hf => ?_, fun f x x3 c hf => ?_, h, AQ.rf S, AV.rf H0 w, AL.rf S, ?_⟩
    · obtain ⟨f, rfl⟩ : ∃ f', f = f' + 1 := ⟨f - 1, by omega⟩
      rw [Int32.add_zero]
      simp only [f_X11_allocateOrder_21, r_mb, bnd_s, r_mrd, r_mbo, r_mret, r_mthr, r_wA, r_wO, r_madd, r_mput, r_mopt, r_mcn, r_mcs, ite_f, e_isWithin, e_isSlot, e_isItem, e_isGroup, e_isRobot, e_isLot, e_isNotice, e_isOrder, e_isTask, bI_t, bI_f, i10, i00, i01, i11, i20, i30, ↓reduceIte, mgd, h72, hL1, Int32.le_refl]
    · obtain ⟨f, rfl⟩ : ∃ f', f = f' + 1 := ⟨f - 1, by omega⟩
      rw [hL1] at a2
      rw [Int32.add_zero, Bool.or_false]
      unfold finA
      by_cases q : zA S 702 o = 0
      · rw [if_pos q]
        simp only [g_X12_allocates_13, kif, r_gb, gbn_s, r_grd, r_gbo, r_gret, r_gst, k_isIn, k_isSlot, k_isItem, k_isGroup, k_isRobot, k_are, k_holds0, k_holds1, k_holds2, k_holds3, k_bit, k_less, bI_t, bI_f, i10, i00, i01, i11, i20, i30, ↓reduceIte, r_gnI (show o < mL 31 from show o < 8 by omega) (show mL 31 < 2 ^ 31 by decide), r_gnI (show o < mL 29 from show o < 8 by omega) (show mL 29 < 2 ^ 31 by decide), hr, a2, Int32.le_refl, c3, q]
      · rw [if_neg q]
        cases c with
        | false =>
          rw [if_pos rfl]
          simp only [g_X12_allocates_13, kif, r_gb, gbn_s, r_grd, r_gbo, r_gret, r_gst, k_isIn, k_isSlot, k_isItem, k_isGroup, k_isRobot, k_are, k_holds0, k_holds1, k_holds2, k_holds3, k_bit, k_less, bI_t, bI_f, i10, i00, i01, i11, i20, i30, ↓reduceIte, r_gnI (show o < mL 31 from show o < 8 by omega) (show mL 31 < 2 ^ 31 by decide), r_gnI (show o < mL 29 from show o < 8 by omega) (show mL 29 < 2 ^ 31 by decide), hr, a2, Int32.le_refl, c3, q]
        | true =>
          rw [if_neg (show ¬ true = false by decide)]
          simp only [g_X12_allocates_13, kif, r_gb, gbn_s, r_grd, r_gbo, r_gret, r_gst, k_isIn, k_isSlot, k_isItem, k_isGroup, k_isRobot, k_are, k_holds0, k_holds1, k_holds2, k_holds3, k_bit, k_less, bI_t, bI_f, i10, i00, i01, i11, i20, i30, ↓reduceIte, r_gnI (show o < mL 31 from show o < 8 by omega) (show mL 31 < 2 ^ 31 by decide), r_gnI (show o < mL 29 from show o < 8 by omega) (show mL 29 < 2 ^ 31 by decide), hr, a2, Int32.le_refl, c3, q]
    · exact ⟨fun _ i _ => h.av0 o i, fun _ => rfl⟩
  | j :: t, pre, S, w, h, hL1, o7, h705, hH => by
    have h8 := h.or.1
    obtain ⟨a1, a2, a3⟩ := h.li.1 o o7
    have h72 : decide (o < zN S 72) = true := decide_eq_true (by rw [h.or.2.1]; exact o7)
    have hr : (nI o).toNatClampNeg = o := nI_clamp (by omega)
    have hpl : pre.length < (zL S 704 o).length := by rw [hL1]; simp
    have hp : (zL S 704 o)[pre.length]? = some j := by rw [hL1]; simp
    have hge : ¬ nI (zL S 704 o).length ≤ nI pre.length := nI_ge hpl (by omega)
    have hat : lAt (zL S 704 o) (nI pre.length) = some j := lAt_n (by omega) hp
    have hL2 : zL S 704 o = (pre ++ [j]) ++ t := by rw [hL1]; simp
    have elen : (pre ++ [j]).length = pre.length + 1 := by rw [List.length_append]; rfl
    obtain ⟨-, ⟨i, hi, h400, -⟩, -⟩ := a3 pre.length j hp
    obtain ⟨S1, w1, b1, b2, b3, b4, b5, b6, b7, b8, b9⟩ := h.alLine o7 hp h705 h400 hi hH
    have o71 : o < zN S1 7 := by rw [b4.2.2.2.2.2 7 (by decide)]; exact o7
    have e704 : zL S1 704 o = zL S 704 o := by rw [b4.2.2.1 704 (by decide)]
    have e702 : zA S1 702 o = zA S 702 o := by rw [b4.1 702 (by decide)]
    obtain ⟨T, v, r, b, c1, c2, c3, c4, c5, c6, c7⟩ := orderL (B := B) (k := k) (o := o) (H0 := H0) t (pre ++ [j]) S1 w1 b3 (by rw [e704]; exact hL2) o71 (by rw [b4.1 705 (by decide)]; exact h705) b8
    rw [elen] at c1 c2
    obtain ⟨k1, k2, k3⟩ := b3.lkB (o := o) (p := pre.length) (j := j) o71 (by rw [e704]; exact hp)
    have e3 : (3 : Int32) * nI o + nI pre.length = nI (3 * o + pre.length) := by rw [show (3 : Int32) = nI 3 from rfl, pk_mul, nI_add]
    have lc := b3.kLack (o := o) (p := pre.length) (j := j) o71 (by rw [e704]; exact hp)
    have hlc : lck S1 j ≤ 0 ↔ lk S1 j = 0 := by
      rw [Int32.le_iff_toInt_le]
      have : (lck S1 j).toInt = lk S1 j := k3
      rw [this, show (0 : Int32).toInt = 0 from rfl]; omega
    refine ⟨T, v, lck S j - lck S1 j + r, !decide (lk S1 j = 0) || b, fun f x hf => ?_, fun f x x3 c hf => ?_, c3, b4.tr c4, b5.tr c5, b6.tr c6, ?_⟩
    · obtain ⟨f, rfl⟩ : ∃ f', f = f' + 1 := ⟨f - 1, by omega⟩
      have := c1 f (x + (lck S j - lck S1 j)) (by simp at hf; omega)
      rw [← Int32.add_assoc, ← this]
      simp only [f_X11_allocateOrder_21, r_mb, bnd_s, r_mrd, r_mbo, r_mret, r_mthr, r_wA, r_wO, r_madd, r_mput, r_mopt, r_mcn, r_mcs, ite_f, e_isWithin, e_isSlot, e_isItem, e_isGroup, e_isRobot, e_isLot, e_isNotice, e_isOrder, e_isTask, bI_t, bI_f, i10, i00, i01, i11, i20, i30, ↓reduceIte, mgd, h72, if_neg hge, mlget, hat, b1, nI_1]
    · obtain ⟨f, rfl⟩ : ∃ f', f = f' + 1 := ⟨f - 1, by omega⟩
      have := fun c => c2 f (x + (lck S j - lck S1 j)) x3 c (by simp at hf; omega)
      rw [← Int32.add_assoc]
      have ef : ∀ x c v, finA S o x x3 c v = finA S1 o x x3 c v := fun x c v => by unfold finA; rw [e702]
      rw [ef]
      have tT := this true
      have tF := this false
      rw [bI_t, Bool.true_or] at tT
      rw [bI_f, Bool.false_or] at tF
      cases c with
      | true =>
        rw [Bool.true_or, ← tT, bI_t]
        simp only [g_X12_allocates_13, kif, r_gb, gbn_s, r_grd, r_gbo, r_gret, r_gst, k_isIn, k_isSlot, k_isItem, k_isGroup, k_isRobot, k_are, k_holds0, k_holds1, k_holds2, k_holds3, k_bit, k_less, bI_t, bI_f, i10, i00, i01, i11, i20, i30, ↓reduceIte, r_gnI (show o < mL 31 from show o < 8 by omega) (show mL 31 < 2 ^ 31 by decide), hr, a2, if_neg hge, b2, nI_1]
      | false =>
        by_cases q : lk S1 j = 0
        · rw [decide_eq_true q, Bool.not_true, Bool.false_or, Bool.false_or, ← tF, bI_f]
          simp only [g_X12_allocates_13, kif, r_gb, gbn_s, r_grd, r_gbo, r_gret, r_gst, k_isIn, k_isSlot, k_isItem, k_isGroup, k_isRobot, k_are, k_holds0, k_holds1, k_holds2, k_holds3, k_bit, k_less, bI_t, bI_f, i10, i00, i01, i11, i20, i30, ↓reduceIte, r_gnI (show o < mL 31 from show o < 8 by omega) (show mL 31 < 2 ^ 31 by decide), hr, a2, if_neg hge, b2, e3, lc, if_pos (hlc.mpr q), nI_1]
        · rw [decide_eq_false q, Bool.not_false, Bool.true_or, Bool.false_or, ← tT, bI_f]
          simp only [g_X12_allocates_13, kif, r_gb, gbn_s, r_grd, r_gbo, r_gret, r_gst, k_isIn, k_isSlot, k_isItem, k_isGroup, k_isRobot, k_are, k_holds0, k_holds1, k_holds2, k_holds3, k_bit, k_less, bI_t, bI_f, i10, i00, i01, i11, i20, i30, ↓reduceIte, r_gnI (show o < mL 31 from show o < 8 by omega) (show mL 31 < 2 ^ 31 by decide), hr, a2, if_neg hge, b2, e3, lc, if_neg (fun r => q (hlc.mp r)), nI_1]
    · have nd : (j :: t).Nodup := by
        have := h.lnd o7
        rw [hL1] at this
        exact (List.nodup_append.mp this).2.1
      have hnt : ∀ i, need S1 t i = need S t i := fun i => sz_cg t fun q hq => by
        have hne : q ≠ j := fun e => (List.nodup_cons.mp nd).1 (e ▸ hq)
        have e1 : lk S1 q = lk S q := by unfold lk; rw [b4.1 401 (by decide), b4.1 403 (by decide), b7.1 q hne]
        rw [b4.2.1 400 (by decide), e1]
      have hn1 : ∀ i', need S (j :: t) i' = (if zO S 400 j = some i' then lk S j else 0) + need S t i' := fun _ => rfl
      have hn0 : ∀ i', 0 ≤ need S t i' := fun i' => sz_0 t fun q hq => by
        split
        · have : q ∈ zL S 704 o := by rw [hL1]; simp [hq]
          obtain ⟨p', hp', hpq⟩ := List.mem_iff_getElem.mp this
          exact (h.lkB o7 (List.getElem?_eq_some_iff.mpr ⟨hp', hpq⟩)).1
        · exact Int.le_refl _
      have hav1 := av_eq b4 b7
      rw [Bool.or_eq_false_iff]
      constructor
      · rintro ⟨z1, z2⟩ i' hi'
        have z : lk S1 j = 0 := by
          refine Classical.byContradiction fun q => ?_
          rw [decide_eq_false q] at z1; cases z1
        have c8 := c7.mp z2 i' hi'
        rw [hnt] at c8
        rw [hn1]
        by_cases e : i' = i
        · subst e
          rw [if_pos h400]; omega
        · rw [if_neg (show ¬ zO S 400 j = some i' from fun r => e (Option.some.inj (r.symm.trans h400)))]
          rw [av_ne b4 b7 e] at c8; omega
      · intro hall
        have z : lk S1 j = 0 := by
          refine Classical.byContradiction fun q => ?_
          have f0 := b9.resolve_left q
          have a0 : av S1 o i = 0 := by
            unfold av
            rw [← sz_z (List.range 12)]
            refine sz_cg _ fun l hl => ?_
            split
            · rename_i gl
              rw [← sz_z (List.range 18)]
              exact sz_cg _ fun s hs => f0 l ((b4.eGd o i l).mp gl) s (List.mem_range.mp hs)
            · rfl
          have := hall i hi
          have := hn0 i
          rw [hn1, if_pos h400] at *
          omega
        refine ⟨by rw [decide_eq_true z]; rfl, c7.mpr fun i' hi' => ?_⟩
        have := hall i' hi'
        rw [hn1] at this
        rw [hnt]
        by_cases e : i' = i
        · subst e
          rw [if_pos h400] at this; omega
        · rw [if_neg (show ¬ zO S 400 j = some i' from fun r => e (Option.some.inj (r.symm.trans h400)))] at this
          rw [av_ne b4 b7 e]; omega
