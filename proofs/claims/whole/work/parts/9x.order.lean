/-! allocate: an order as a whole -/
theorem sz_rng {z : Nat → Int} {n m : Nat} (hnm : n ≤ m) (h : ∀ l, n ≤ l → l < m → z l = 0) : sz (List.range m) z = sz (List.range n) z := by
  induction m with
  | zero => have : n = 0 := by omega
            subst this; rfl
  | succ m ih =>
    by_cases e : n = m + 1
    · rw [e]
    · rw [List.range_succ, sz_app, h m (by omega) (by omega), Int.add_zero]
      exact ih (by omega) fun l h1 h2 => h l h1 (by omega)
section
variable {B k : Nat} {S T : Ss} {w v : MS}
theorem Rel.back (h : Rel B k S w) {H0 : Nat} (hH : H0 = ((hL S).filter (hasO S)).length) (a : AV H0 w v) : Rel B k S (mSI 39 (nI H0) v) := by
  obtain ⟨a1, a2, a3⟩ := a
  have eu : mSI 39 (nI H0) v = (w.1, fun f q => if 40 ≤ f ∧ f ≤ 44 then mA v f q else mA w f q) := by
    refine Prod.ext (funext fun f => ?_) (funext fun f => funext fun q => ?_)
    · by_cases e : f = 39
      · subst e
        exact (show nI H0 = mI w 39 by rw [h.hm.1, hH])
      · have : (mSI 39 (nI H0) v).1 f = v.1 f := if_neg e
        rw [this]; exact a3 f e
    · by_cases e : 40 ≤ f ∧ f ≤ 44
      · exact (if_pos e).symm
      · exact (congrFun (a1 f (by omega)) q).trans (if_neg e).symm
  rw [eu]
  have hm : g_hm S ((w.1, fun f q => if 40 ≤ f ∧ f ≤ 44 then mA v f q else mA w f q) : MS) := by
    refine ⟨h.hm.1, fun k x hx => ?_⟩
    have hk : k < H0 := by rw [hH]; exact (List.getElem?_eq_some_iff.mp hx).1
    obtain ⟨o, j, l, d1, d2, d3, d4, d5, d6, d7, d8⟩ := h.hm.2 k x hx
    exact ⟨o, j, l, d1, d2, d3, (a2 40 k hk).trans d4, (a2 41 k hk).trans d5, (a2 42 k hk).trans d6, (a2 43 k hk).trans d7, (a2 44 k hk).trans d8⟩
  exact ⟨h.sl, h.it, h.ba, h.sc, h.lo, h.be, h.no, h.ca, h.aw, h.or, h.li, h.bk, h.nn, h.tr, h.db, h.mv, h.ho, h.hs, hm, h.ta, h.ap, h.ro, h.st, h.bx⟩
theorem Rel.pg41 (h : Rel B k S w) {l : Nat} (hl : l < 12) (K5 : Nat → Nat → Int32 → Int32 → MM (Int32)) (o i : Nat) (a : Int32) : (f_X11_piecesGoodFor_41 K5 FU o i a (nI l) 0).1 S = (K5 o i (a + sm (List.range 18) (fun s => zC S 0 (12 * s + l) - zC S 3 (12 * s + l))) (nI (l + 1))).1 S := by
  have key := m_sum (fun f a x => f_X11_piecesGoodFor_41 K5 f o i a (nI l) x) (fun a => (K5 o i a (nI (l + 1))).1 S) S 18 (fun s => zC S 0 (12 * s + l) - zC S 3 (12 * s + l)) (fun f a s hs => ?_) (fun f a => ?_) a FU (FU_gt (by omega))
  · exact key
  · have hge : ¬ (18 : Int32) ≤ nI s := nI_ge (b := 18) hs (by decide)
    have ef := e_free (S := S) (p := s) (l := l) (by omega) hl
    simp only [f_X11_piecesGoodFor_41, r_mb, bnd_s, r_mrd, r_mbo, r_mret, r_mthr, r_wA, r_wO, r_madd, r_mput, r_mopt, r_mcn, r_mcs, ite_f, e_isWithin, e_isSlot, e_isItem, e_isGroup, e_isRobot, e_isLot, e_isNotice, e_isOrder, e_isTask, bI_t, bI_f, i10, i00, i01, i11, i20, i30, ↓reduceIte, if_neg hge, ef, nI_1]
  · simp only [f_X11_piecesGoodFor_41, r_mb, bnd_s, r_mrd, r_mbo, r_mret, r_mthr, r_wA, r_wO, r_madd, r_mput, r_mopt, r_mcn, r_mcs, ite_f, e_isWithin, e_isSlot, e_isItem, e_isGroup, e_isRobot, e_isLot, e_isNotice, e_isOrder, e_isTask, bI_t, bI_f, i10, i00, i01, i11, i20, i30, ↓reduceIte, show (18 : Int32) ≤ nI 18 by decide, nI_1]
theorem Rel.ePieces (h : Rel B k S w) (o i : Nat) : ∃ x, (f_X11_piecesGoodFor o i).1 S = some (x, S) ∧ x.toInt = av S o i := by
  have h12 := h.lo.1
  have fr : ∀ l, l < 12 → sz (List.range 18) (fun s => (zC S 0 (12 * s + l) - zC S 3 (12 * s + l)).toInt) = sz (List.range 18) (fun s => fre S s l) := fun l hl => sz_cg _ fun s hs => h.frI (List.mem_range.mp hs) hl
  have fb : ∀ l, l < 12 → 0 ≤ sz (List.range 18) (fun s => fre S s l) ∧ sz (List.range 18) (fun s => fre S s l) ≤ 144000000 := fun l hl => by
    constructor
    · exact sz_0 _ fun s hs => (h.frB0 (List.mem_range.mp hs) hl).1
    · have := sz_ub (z := fun s => fre S s l) (c := 8000000) (List.range 18) fun s hs => (h.frB0 (List.mem_range.mp hs) hl).2
      rw [List.length_range] at this
      omega
  have ft : ∀ l, l < 12 → (sm (List.range 18) (fun s => zC S 0 (12 * s + l) - zC S 3 (12 * s + l))).toInt = sz (List.range 18) (fun s => fre S s l) := fun l hl => by
    rw [sm_toInt _ (fun s hs => by rw [h.frI (List.mem_range.mp hs) hl]; exact (h.frB0 (List.mem_range.mp hs) hl).1) (by rw [fr l hl]; have := fb l hl; omega), fr l hl]
  obtain ⟨E, hE⟩ : ∃ E : Nat → Int32, E = fun l => if gd S o i l then sm (List.range 18) (fun s => zC S 0 (12 * s + l) - zC S 3 (12 * s + l)) else 0 := ⟨_, rfl⟩
  have eE : ∀ l, l < 12 → (E l).toInt = if gd S o i l then sz (List.range 18) (fun s => fre S s l) else 0 := fun l hl => by
    rw [hE]
    show (if gd S o i l then sm (List.range 18) (fun s => zC S 0 (12 * s + l) - zC S 3 (12 * s + l)) else 0).toInt = _
    by_cases q : gd S o i l
    · rw [if_pos q, if_pos q]; exact ft l hl
    · rw [if_neg q, if_neg q]; rfl
  have eS : sz (List.range (zN S 5)) (fun l => (E l).toInt) = av S o i := by
    unfold av
    rw [sz_rng (n := zN S 5) (m := 12) h12 (fun l h1 _ => if_neg (show ¬ gd S o i l from fun e => by have := e.1; omega))]
    exact sz_cg _ fun l hl => eE l (by have := List.mem_range.mp hl; omega)
  have aB : av S o i ≤ 1728000000 := by
    have := sz_ub (z := fun l => if gd S o i l then sz (List.range 18) (fun s => fre S s l) else 0) (c := 144000000) (List.range 12) fun l hl => by
      show (if gd S o i l then sz (List.range 18) (fun s => fre S s l) else 0) ≤ _
      split
      · exact (fb l (List.mem_range.mp hl)).2
      · omega
    rw [List.length_range] at this
    unfold av; omega
  have key := m_sum (fun f a x => f_X11_piecesGoodFor_5 f o i a x) (fun a => some (a, S)) S (zN S 5) E (fun f a l hl => ?_) (fun f a => ?_) 0 FU (FU_gt (by omega))
  · refine ⟨_, key, ?_⟩
    rw [Int32.zero_add, sm_toInt _ (fun l hl => ?_) (by rw [eS]; omega), eS]
    rw [eE l (by have := List.mem_range.mp hl; omega)]
    split
    · exact (fb l (by have := List.mem_range.mp hl; omega)).1
    · exact Int.le_refl _
  · obtain ⟨b1, -, -, -, b5, -⟩ := h.lo.2.2.2.1 l hl
    have hge : ¬ nI (zN S 5) ≤ nI l := nI_ge hl (by omega)
    have eg := e_good (S := S) (o := o) (i := i) hl b5
    have n10 : ¬ (1 : Int32) = 0 := by decide
    rw [hE]
    show (f_X11_piecesGoodFor_5 (f + 1) o i a (nI l)).1 S = (f_X11_piecesGoodFor_5 f o i (a + if gd S o i l then sm (List.range 18) (fun s => zC S 0 (12 * s + l) - zC S 3 (12 * s + l)) else 0) (nI (l + 1))).1 S
    by_cases q : gd S o i l
    · rw [if_pos q]
      rw [← h.pg41 (show l < 12 by omega) (f_X11_piecesGoodFor_5 f) o i a]
      simp only [f_X11_piecesGoodFor_5, r_mb, bnd_s, r_mrd, r_mbo, r_mret, r_mthr, r_wA, r_wO, r_madd, r_mput, r_mopt, r_mcn, r_mcs, ite_f, e_isWithin, e_isSlot, e_isItem, e_isGroup, e_isRobot, e_isLot, e_isNotice, e_isOrder, e_isTask, bI_t, bI_f, i10, i00, i01, i11, i20, i30, ↓reduceIte, h.nl, if_neg hge, mlget, h.atL hl, eg, if_pos q, n10]
    · rw [if_neg q]
      simp only [f_X11_piecesGoodFor_5, r_mb, bnd_s, r_mrd, r_mbo, r_mret, r_mthr, r_wA, r_wO, r_madd, r_mput, r_mopt, r_mcn, r_mcs, ite_f, e_isWithin, e_isSlot, e_isItem, e_isGroup, e_isRobot, e_isLot, e_isNotice, e_isOrder, e_isTask, bI_t, bI_f, i10, i00, i01, i11, i20, i30, ↓reduceIte, h.nl, if_neg hge, mlget, h.atL hl, eg, if_neg q, Int32.add_zero, nI_1]
  · simp only [f_X11_piecesGoodFor_5, r_mb, bnd_s, r_mrd, r_mbo, r_mret, r_mthr, r_wA, r_wO, r_madd, r_mput, r_mopt, r_mcn, r_mcs, ite_f, e_isWithin, e_isSlot, e_isItem, e_isGroup, e_isRobot, e_isLot, e_isNotice, e_isOrder, e_isTask, bI_t, bI_f, i10, i00, i01, i11, i20, i30, ↓reduceIte, h.nl, Int32.le_refl]
theorem Rel.eW29 (h : Rel B k S w) {o i : Nat} (o7 : o < zN S 7) (K11 : Nat → Int32 → Int32 → MM (Int32)) (x3 : Int32) : (f_X11_canBeWhole_29 K11 FU o x3 (nI i) (some i) 0 0).1 S = if need S (zL S 704 o) i ≤ av S o i then (K11 o x3 (nI (i + 1))).1 S else some (0, S) := by
  obtain ⟨a1, a2, a3⟩ := h.li.1 o o7
  have h72 : decide (o < zN S 72) = true := decide_eq_true (by rw [h.or.2.1]; exact o7)
  obtain ⟨x, p1, p2⟩ := h.ePieces o i
  have le : ∀ q, q ∈ zL S 704 o → 0 ≤ lk S q ∧ lk S q ≤ 99 ∧ (lck S q).toInt = lk S q := fun q hq => by
    obtain ⟨p', hp', hpq⟩ := List.mem_iff_getElem.mp hq
    exact h.lkB o7 (List.getElem?_eq_some_iff.mpr ⟨hp', hpq⟩)
  obtain ⟨E, hE⟩ : ∃ E : Nat → Int32, E = fun q => if zO S 400 q = some i then lck S q else 0 := ⟨_, rfl⟩
  have eE : ∀ q, q ∈ zL S 704 o → (E q).toInt = if zO S 400 q = some i then lk S q else 0 := fun q hq => by
    rw [hE]
    show (if zO S 400 q = some i then lck S q else 0).toInt = _
    split
    · exact (le q hq).2.2
    · rfl
  have eN : sz (zL S 704 o) (fun q => (E q).toInt) = need S (zL S 704 o) i := sz_cg _ eE
  have nB : need S (zL S 704 o) i ≤ 297 := by
    have := sz_ub (z := fun q => if zO S 400 q = some i then lk S q else 0) (c := 99) (zL S 704 o) fun q hq => by
      show (if zO S 400 q = some i then lk S q else 0) ≤ _
      split
      · exact (le q hq).2.1
      · omega
    unfold need; omega
  have sT : (sm (zL S 704 o) E).toInt = need S (zL S 704 o) i := by
    rw [sm_toInt _ (fun q hq => ?_) (by rw [eN]; omega), eN]
    rw [eE q hq]
    split
    · exact (le q hq).1
    · exact Int.le_refl _
  have sI := sm_idx (xs := zL S 704 o) (n := (zL S 704 o).length) (f := E) (e := fun p => E ((zL S 704 o).getD p 0)) rfl fun p q hq => by
    show E ((zL S 704 o).getD p 0) = E q
    rw [List.getD_eq_getElem?_getD, hq]; rfl
  have key := m_sum (fun f a x => f_X11_canBeWhole_29 K11 f o x3 (nI i) (some i) a x) (fun a => if a ≤ x then (K11 o x3 (nI (i + 1))).1 S else some (0, S)) S (zL S 704 o).length (fun p => E ((zL S 704 o).getD p 0)) (fun f a p hp => ?_) (fun f a => ?_) 0 FU (FU_gt (by omega))
  · refine key.trans ?_
    rw [sI, Int32.zero_add]
    have c : sm (zL S 704 o) E ≤ x ↔ need S (zL S 704 o) i ≤ av S o i := by rw [Int32.le_iff_toInt_le, sT, p2]
    by_cases q : need S (zL S 704 o) i ≤ av S o i
    · rw [if_pos q, if_pos (c.mpr q)]
    · rw [if_neg q, if_neg (fun r => q (c.mp r))]
  · have hge : ¬ nI (zL S 704 o).length ≤ nI p := nI_ge hp (by omega)
    have hpj : (zL S 704 o)[p]? = some ((zL S 704 o)[p]'hp) := List.getElem?_eq_getElem hp
    obtain ⟨j, hj⟩ : ∃ j, j = (zL S 704 o)[p]'hp := ⟨_, rfl⟩
    rw [← hj] at hpj
    have hat : lAt (zL S 704 o) (nI p) = some j := lAt_n (by omega) hpj
    have eG : (zL S 704 o).getD p 0 = j := by rw [List.getD_eq_getElem?_getD, hpj]; rfl
    show (f_X11_canBeWhole_29 K11 (f + 1) o x3 (nI i) (some i) a (nI p)).1 S = (f_X11_canBeWhole_29 K11 f o x3 (nI i) (some i) (a + E ((zL S 704 o).getD p 0)) (nI (p + 1))).1 S
    rw [eG, hE]
    show _ = (f_X11_canBeWhole_29 K11 f o x3 (nI i) (some i) (a + if zO S 400 j = some i then lck S j else 0) (nI (p + 1))).1 S
    by_cases q : zO S 400 j = some i
    · rw [if_pos q]
      simp only [f_X11_canBeWhole_29, r_mb, bnd_s, r_mrd, r_mbo, r_mret, r_mthr, r_wA, r_wO, r_madd, r_mput, r_mopt, r_mcn, r_mcs, ite_f, e_isWithin, e_isSlot, e_isItem, e_isGroup, e_isRobot, e_isLot, e_isNotice, e_isOrder, e_isTask, bI_t, bI_f, i10, i00, i01, i11, i20, i30, ↓reduceIte, mgd, h72, if_neg hge, mlget, hat, if_pos q, e_lack, nI_1]
    · rw [if_neg q]
      simp only [f_X11_canBeWhole_29, r_mb, bnd_s, r_mrd, r_mbo, r_mret, r_mthr, r_wA, r_wO, r_madd, r_mput, r_mopt, r_mcn, r_mcs, ite_f, e_isWithin, e_isSlot, e_isItem, e_isGroup, e_isRobot, e_isLot, e_isNotice, e_isOrder, e_isTask, bI_t, bI_f, i10, i00, i01, i11, i20, i30, ↓reduceIte, mgd, h72, if_neg hge, mlget, hat, if_neg q, nI_1]
  · show (f_X11_canBeWhole_29 K11 (f + 1) o x3 (nI i) (some i) a (nI (zL S 704 o).length)).1 S = if a ≤ x then (K11 o x3 (nI (i + 1))).1 S else some (0, S)
    by_cases q : a ≤ x
    · rw [if_pos q]
      simp only [f_X11_canBeWhole_29, r_mb, bnd_s, r_mrd, r_mbo, r_mret, r_mthr, r_wA, r_wO, r_madd, r_mput, r_mopt, r_mcn, r_mcs, ite_f, e_isWithin, e_isSlot, e_isItem, e_isGroup, e_isRobot, e_isLot, e_isNotice, e_isOrder, e_isTask, bI_t, bI_f, i10, i00, i01, i11, i20, i30, ↓reduceIte, mgd, h72, Int32.le_refl, p1, if_pos q, nI_1]
    · rw [if_neg q]
      simp only [f_X11_canBeWhole_29, r_mb, bnd_s, r_mrd, r_mbo, r_mret, r_mthr, r_wA, r_wO, r_madd, r_mput, r_mopt, r_mcn, r_mcs, ite_f, e_isWithin, e_isSlot, e_isItem, e_isGroup, e_isRobot, e_isLot, e_isNotice, e_isOrder, e_isTask, bI_t, bI_f, i10, i00, i01, i11, i20, i30, ↓reduceIte, mgd, h72, Int32.le_refl, p1, if_neg q]
theorem Rel.eW11 (h : Rel B k S w) {o : Nat} (o7 : o < zN S 7) : ∀ d i, i + d = 6 → ∀ f, d < f → ∃ b, (f_X11_canBeWhole_11 f o (nI 6) (nI i)).1 S = some (bI b, S) ∧ (b = true ↔ ∀ i', i ≤ i' → i' < 6 → need S (zL S 704 o) i' ≤ av S o i')
  | 0, i, e, f, hf => by
    obtain ⟨f, rfl⟩ : ∃ f', f = f' + 1 := ⟨f - 1, by omega⟩
    have : i = 6 := by omega
    subst this
    refine ⟨true, ?_, ⟨fun _ i' h1 h2 => absurd h2 (by omega), fun _ => rfl⟩⟩
    rw [bI_t]
    simp only [f_X11_canBeWhole_11, r_mb, bnd_s, r_mrd, r_mbo, r_mret, r_mthr, r_wA, r_wO, r_madd, r_mput, r_mopt, r_mcn, r_mcs, ite_f, e_isWithin, e_isSlot, e_isItem, e_isGroup, e_isRobot, e_isLot, e_isNotice, e_isOrder, e_isTask, bI_t, bI_f, i10, i00, i01, i11, i20, i30, ↓reduceIte, Int32.le_refl]
  | d + 1, i, e, f, hf => by
    obtain ⟨f, rfl⟩ : ∃ f', f = f' + 1 := ⟨f - 1, by omega⟩
    have hge : ¬ nI 6 ≤ nI i := nI_ge (show i < 6 by omega) (by decide)
    obtain ⟨b, b1, b2⟩ := h.eW11 o7 d (i + 1) (by omega) f (by omega)
    have st : (f_X11_canBeWhole_11 (f + 1) o (nI 6) (nI i)).1 S = if need S (zL S 704 o) i ≤ av S o i then (f_X11_canBeWhole_11 f o (nI 6) (nI (i + 1))).1 S else some (0, S) := by
      rw [← h.eW29 o7]
      simp only [f_X11_canBeWhole_11, r_mb, bnd_s, r_mrd, r_mbo, r_mret, r_mthr, r_wA, r_wO, r_madd, r_mput, r_mopt, r_mcn, r_mcs, ite_f, e_isWithin, e_isSlot, e_isItem, e_isGroup, e_isRobot, e_isLot, e_isNotice, e_isOrder, e_isTask, bI_t, bI_f, i10, i00, i01, i11, i20, i30, ↓reduceIte, if_neg hge, r_mnI (show i < aLn 1101 from show i < 6 by omega) (show aLn 1101 < 2 ^ 31 by decide), nI_clamp (show i < 2 ^ 31 by omega)]
    by_cases q : need S (zL S 704 o) i ≤ av S o i
    · refine ⟨b, by rw [st, if_pos q, b1], b2.trans ⟨fun y i' h1 h2 => ?_, fun y i' h1 h2 => y i' (by omega) h2⟩⟩
      by_cases e2 : i' = i
      · rw [e2]; exact q
      · exact y i' (by omega) h2
    · refine ⟨false, by rw [st, if_neg q]; rfl, ⟨fun y => (by cases y), fun y => absurd (y i (Nat.le_refl _) (by omega)) q⟩⟩
theorem Rel.alOrd (h : Rel B k S w) {o : Nat} (o7 : o < zN S 7) (h705 : zA S 705 o = 0) : ∃ T v r, (f_X11_allocateOrder o).1 S = some (r, T) ∧ g_X12_allocates (nI o) w = some (r, v) ∧ Rel B k T v ∧ AQ S T ∧ AL S T := by
  obtain ⟨a1, a2, a3⟩ := h.li.1 o o7
  obtain ⟨T, v, r, b, c1, c2, c3, c4, c5, c6, c7⟩ := orderL (B := B) (k := k) (o := o) (H0 := ((hL S).filter (hasO S)).length) (zL S 704 o) [] S w h rfl o7 h705 (Nat.le_refl _)
  have hF : (zL S 704 o).length < FU := FU_gt (by omega)
  have c1' := c1 FU 0 hF
  have c2' := c2 FU 0 (mI w 39) false hF
  have z : nI ([] : List Nat).length = 0 := rfl
  rw [z, Int32.zero_add] at c1' c2'
  rw [bI_f, Bool.false_or] at c2'
  have g1 : g_X12_allocates (nI o) w = finA S o r (mI w 39) b v := by
    rw [← c2']
    simp only [g_X12_allocates, kif, r_gb, gbn_s, r_grd, r_gbo, r_gret, r_gst, k_isIn, k_isSlot, k_isItem, k_isGroup, k_isRobot, k_are, k_holds0, k_holds1, k_holds2, k_holds3, k_bit, k_less, bI_t, bI_f, i10, i00, i01, i11, i20, i30, ↓reduceIte]
  by_cases q : zA S 702 o = 0
  · refine ⟨T, v, r, ?_, ?_, c3, c4, c6⟩
    · simp only [f_X11_allocateOrder, r_mb, bnd_s, r_mrd, r_mbo, r_mret, r_mthr, r_wA, r_wO, r_madd, r_mput, r_mopt, r_mcn, r_mcs, ite_f, e_isWithin, e_isSlot, e_isItem, e_isGroup, e_isRobot, e_isLot, e_isNotice, e_isOrder, e_isTask, bI_t, bI_f, i10, i00, i01, i11, i20, i30, ↓reduceIte, if_pos q, c1']
    · rw [g1]; unfold finA; rw [if_pos q]
  · obtain ⟨b', b1, b2⟩ := h.eW11 o7 6 0 rfl FU (FU_gt (by decide))
    have ew : (f_X11_canBeWhole o).1 S = some (bI b', S) := by
      rw [← b1]
      simp only [f_X11_canBeWhole, r_mb, bnd_s, r_mrd, r_mbo, r_mret, r_mthr, r_wA, r_wO, r_madd, r_mput, r_mopt, r_mcn, r_mcs, ite_f, e_isWithin, e_isSlot, e_isItem, e_isGroup, e_isRobot, e_isLot, e_isNotice, e_isOrder, e_isTask, bI_t, bI_f, i10, i00, i01, i11, i20, i30, ↓reduceIte]
      rfl
    have n10 : ¬ (1 : Int32) = 0 := by decide
    cases hb : b with
    | false =>
      have : b' = true := b2.mpr fun i' _ h2 => (c7.mp hb) i' h2
      rw [this, bI_t] at ew
      refine ⟨T, v, r, ?_, ?_, c3, c4, c6⟩
      · simp only [f_X11_allocateOrder, r_mb, bnd_s, r_mrd, r_mbo, r_mret, r_mthr, r_wA, r_wO, r_madd, r_mput, r_mopt, r_mcn, r_mcs, ite_f, e_isWithin, e_isSlot, e_isItem, e_isGroup, e_isRobot, e_isLot, e_isNotice, e_isOrder, e_isTask, bI_t, bI_f, i10, i00, i01, i11, i20, i30, ↓reduceIte, if_neg q, ew, n10, c1']
      · rw [g1, hb]; unfold finA; rw [if_neg q, if_pos rfl]
    | true =>
      have : b' = false := by
        cases hb' : b' with
        | false => rfl
        | true =>
          have := c7.mpr fun i' h2 => (b2.mp hb') i' (Nat.zero_le _) h2
          rw [hb] at this; cases this
      rw [this, bI_f] at ew
      refine ⟨S, mSI 39 (nI ((hL S).filter (hasO S)).length) v, 0, ?_, ?_, h.back rfl c5, AQ.rf S, AL.rf S⟩
      · simp only [f_X11_allocateOrder, r_mb, bnd_s, r_mrd, r_mbo, r_mret, r_mthr, r_wA, r_wO, r_madd, r_mput, r_mopt, r_mcn, r_mcs, ite_f, e_isWithin, e_isSlot, e_isItem, e_isGroup, e_isRobot, e_isLot, e_isNotice, e_isOrder, e_isTask, bI_t, bI_f, i10, i00, i01, i11, i20, i30, ↓reduceIte, if_neg q, ew]
      · rw [g1, hb]; unfold finA
        rw [if_neg q, if_neg (show ¬ true = false by decide), h.hm.1]
end
