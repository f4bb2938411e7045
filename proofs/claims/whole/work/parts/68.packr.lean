/-! packing, in the reference -/
section
variable {S T : Ss} {w v : MS}
def PFq (w v : MS) : Prop := mI v = mI w ∧ ∀ k, k ≠ 61 ∧ k ≠ 62 ∧ k ≠ 63 ∧ k ≠ 64 → mA v k = mA w k
theorem PFq.rf (w : MS) : PFq w w := ⟨rfl, fun _ _ => rfl⟩
theorem PFq.tr {w v u : MS} (h : PFq w v) (g : PFq v u) : PFq w u := ⟨g.1.trans h.1, fun k hk => (g.2 k hk).trans (h.2 k hk)⟩
theorem PFq.to {w v : MS} (h : PFq w v) : PFr w v := ⟨h.1, fun k hk => h.2 k hk.2⟩
theorem PI.fr {w v : MS} (h : PI S w) (g : PFr w v) : PI S v := by
  obtain ⟨a1, a2⟩ := h
  unfold PI
  rw [g.2 10 (by decide), g.2 11 (by decide), g.2 12 (by decide), g.2 14 (by decide)]
  exact ⟨a1, a2⟩
theorem m61 {k j : Nat} {a b c d : Int32} : mA (mSA 64 k d (mSA 63 k c (mSA 62 k b (mSA 61 k a w)))) 61 j = if j = k then a else mA w 61 j := by rw [fBA (by decide), fBA (by decide), fBA (by decide), sBA]
theorem m62 {k j : Nat} {a b c d : Int32} : mA (mSA 64 k d (mSA 63 k c (mSA 62 k b (mSA 61 k a w)))) 62 j = if j = k then b else mA w 62 j := by rw [fBA (by decide), fBA (by decide), sBA, fBA (by decide)]
theorem m63 {k j : Nat} {a b c d : Int32} : mA (mSA 64 k d (mSA 63 k c (mSA 62 k b (mSA 61 k a w)))) 63 j = if j = k then c else mA w 63 j := by rw [fBA (by decide), sBA, fBA (by decide), fBA (by decide)]
theorem m64 {k j : Nat} {a b c d : Int32} : mA (mSA 64 k d (mSA 63 k c (mSA 62 k b (mSA 61 k a w)))) 64 j = if j = k then d else mA w 64 j := by rw [sBA, fBA (by decide), fBA (by decide), fBA (by decide)]
theorem BXr.set {A C : List Bx} {x y : Bx} (h : BXr w (A ++ x :: C)) : BXr (mSA 64 A.length y.2.2.2 (mSA 63 A.length y.2.2.1 (mSA 62 A.length y.2.1 (mSA 61 A.length y.1 w)))) (A ++ y :: C) := by
  intro k z hk
  rw [m61, m62, m63, m64]
  rcases get_mid hk with ⟨g1, g2⟩ | ⟨g1, g2⟩
  · rw [if_pos g1, if_pos g1, if_pos g1, if_pos g1, g2]
    exact ⟨rfl, rfl, rfl, rfl⟩
  · rw [if_neg g1, if_neg g1, if_neg g1, if_neg g1]
    exact h k z (g2 x)
theorem BXr.app {A : List Bx} (y : Bx) (h : BXr w A) : BXr (mSA 64 A.length y.2.2.2 (mSA 63 A.length y.2.2.1 (mSA 62 A.length y.2.1 (mSA 61 A.length y.1 w)))) (A ++ [y]) := by
  intro k z hk
  rw [m61, m62, m63, m64]
  rcases get_app1 hk with ⟨g1, g2⟩ | ⟨g1, g2⟩
  · have e : ¬ k = A.length := by omega
    rw [if_neg e, if_neg e, if_neg e, if_neg e]
    exact h k z g1
  · rw [if_pos g1, if_pos g1, if_pos g1, if_pos g1, g2]
    exact ⟨rfl, rfl, rfl, rfl⟩
/-- a piece goes into a box -/
theorem k_144 (K33 : Int32 → Int32 → GM Int32) (K48 : Int32 → Int32 → Int32 → Int32 → GM Int32) (hP : PI S w) {k i : Nat} (x : Bx) (hk : k < 300) (hi : i < 6) (h : mA w 61 k = x.1 ∧ mA w 62 k = x.2.1 ∧ mA w 63 k = x.2.2.1 ∧ mA w 64 k = x.2.2.2) (x2 x3 x5 : Int32) : g_X12_packs_144 K33 K48 x2 x3 (nI i) x5 (nI k) w = K48 x2 x3 (nI i) (x5 + 1) (mSA 64 k (bxP (zA S 302) (zA S 303) i x).2.2.2 (mSA 63 k (bxP (zA S 302) (zA S 303) i x).2.2.1 (mSA 62 k (bxP (zA S 302) (zA S 303) i x).2.1 (mSA 61 k (bxP (zA S 302) (zA S 303) i x).1 w)))) := by
  obtain ⟨a1, a2, a3, a4⟩ := h
  obtain ⟨c1, c2, -⟩ := hP.1 i hi
  simp only [g_X12_packs_144, kif, r_gb, gbn_s, r_grd, r_gbo, r_gret, r_gst, k_isIn, k_isSlot, k_isItem, k_isGroup, k_isRobot, k_are, k_holds0, k_holds1, k_holds2, k_holds3, k_bit, k_less, bI_t, bI_f, i10, i00, i01, i11, i20, i30, ↓reduceIte, mI_mSA, mI_mSI, mA_mSI, mA_mSA, Nat.reduceEqDiff, reduceCtorEq, Nat.reduceEqDiff, false_and, true_and, and_true, r_gnI (show k < mL 61 from hk) (show mL 61 < 2 ^ 31 by decide), r_gnI (show k < mL 62 from hk) (show mL 62 < 2 ^ 31 by decide), r_gnI (show k < mL 63 from hk) (show mL 63 < 2 ^ 31 by decide), r_gnI (show k < mL 64 from hk) (show mL 64 < 2 ^ 31 by decide), r_gnI (show i < mL 10 from hi) (show mL 10 < 2 ^ 31 by decide), r_gnI (show i < mL 11 from hi) (show mL 11 < 2 ^ 31 by decide), nI_clamp (show k < 2 ^ 31 by omega), nI_clamp (show i < 2 ^ 31 by omega), a1, a2, a3, a4, c1, c2]
  rfl
theorem k_put1 (K33 : Int32 → Int32 → GM Int32) (K48 : Int32 → Int32 → Int32 → Int32 → GM Int32) (hP : PI S w) {bs : List Bx} {i : Nat} (hi : i < 6) (h : BXr w bs) (hl : bs.length < 300) (x3 x5 : Int32) : ∃ v, g_X12_packs_80 K33 K48 FU (nI bs.length) x3 (nI i) x5 0 w = K48 (nI (put1 (zA S 302) (zA S 303) (zA S 304) (zA S 1115 0) i bs).length) x3 (nI i) (x5 + 1) v ∧ BXr v (put1 (zA S 302) (zA S 303) (zA S 304) (zA S 1115 0) i bs) ∧ PFq w v := by
  have fr : ∀ (w : MS) (k : Nat) (a b c d : Int32), PFq w (mSA 64 k d (mSA 63 k c (mSA 62 k b (mSA 61 k a w)))) := fun w k a b c d => ⟨rfl, fun q hq => by rw [fBA hq.2.2.2, fBA hq.2.2.1, fBA hq.2.1, fBA hq.1]⟩
  have key := g_find (fun f j => g_X12_packs_80 K33 K48 f (nI bs.length) x3 (nI i) x5 j) w bs.length (fun k => bxF (zA S 302) (zA S 303) (zA S 304) (zA S 1115 0) i ((bs[k]?).getD (0, 0, 0, 0)) = true) (fun k => g_X12_packs_103 K33 K48 (nI bs.length) x3 (nI i) x5 (nI k) w) (g_X12_packs_103 K33 K48 (nI bs.length) x3 (nI i) x5 (nI bs.length) w) (fun f k hk q => by
    have hx : bs[k]? = some (bs[k]'hk) := List.getElem?_eq_getElem hk
    rw [hx] at q
    have q' : bxF (zA S 302) (zA S 303) (zA S 304) (zA S 1115 0) i (bs[k]'hk) = true := q
    have e := k_fits hP h hx (by omega) hi
    rw [q'] at e
    simp only [g_X12_packs_80, kif, r_gb, gbn_s, r_grd, r_gbo, r_gret, r_gst, k_isIn, k_isSlot, k_isItem, k_isGroup, k_isRobot, k_are, k_holds0, k_holds1, k_holds2, k_holds3, k_bit, k_less, bI_t, bI_f, i10, i00, i01, i11, i20, i30, ↓reduceIte, nI_ge hk (show bs.length < 2 ^ 31 by omega), e]) (fun f k hk q => by
    have hx : bs[k]? = some (bs[k]'hk) := List.getElem?_eq_getElem hk
    rw [hx] at q
    have q' : bxF (zA S 302) (zA S 303) (zA S 304) (zA S 1115 0) i (bs[k]'hk) = false := by
      cases e : bxF (zA S 302) (zA S 303) (zA S 304) (zA S 1115 0) i (bs[k]'hk) with
      | false => rfl
      | true => exact absurd e q
    have e := k_fits hP h hx (by omega) hi
    rw [q'] at e
    simp only [g_X12_packs_80, kif, r_gb, gbn_s, r_grd, r_gbo, r_gret, r_gst, k_isIn, k_isSlot, k_isItem, k_isGroup, k_isRobot, k_are, k_holds0, k_holds1, k_holds2, k_holds3, k_bit, k_less, bI_t, bI_f, i10, i00, i01, i11, i20, i30, ↓reduceIte, nI_ge hk (show bs.length < 2 ^ 31 by omega), e, nI_1]) (fun f => by
    simp only [g_X12_packs_80, kif, r_gb, gbn_s, r_grd, r_gbo, r_gret, r_gst, k_isIn, k_isSlot, k_isItem, k_isGroup, k_isRobot, k_are, k_holds0, k_holds1, k_holds2, k_holds3, k_bit, k_less, bI_t, bI_f, i10, i00, i01, i11, i20, i30, ↓reduceIte, Int32.le_refl]) FU (FU_gt (by omega))
  rcases put1_at (zA S 302) (zA S 303) (zA S 304) (zA S 1115 0) i bs with ⟨A, x, C, a1, a2, a3, a4⟩ | ⟨a1, a2⟩
  · -- into an open one
    have hat : bs[A.length]? = some x := by rw [a1]; exact get_at
    have hAl : A.length < bs.length := (List.getElem?_eq_some_iff.mp hat).1
    have hr : g_X12_packs_80 K33 K48 FU (nI bs.length) x3 (nI i) x5 0 w = g_X12_packs_103 K33 K48 (nI bs.length) x3 (nI i) x5 (nI A.length) w := by
      rcases key with ⟨k, k1, k2, k3, k4⟩ | ⟨k1, k2⟩
      · have e : k = A.length := by
          refine Classical.byContradiction fun r => ?_
          rcases Nat.lt_or_gt_of_ne r with q | q
          · have hy : bs[k]? = some (A[k]'q) := by rw [a1, List.getElem?_append_left q]; exact List.getElem?_eq_getElem q
            rw [hy] at k2
            exact a2 _ (List.getElem_mem q) k2
          · have := k3 A.length q
            rw [hat] at this
            exact this a3
        rw [← e]; exact k4
      · have := k1 A.length hAl
        rw [hat] at this
        exact absurd a3 this
    have ne : ¬ nI A.length = nI bs.length := fun r => by
      have := (nI_eq (by omega) (by omega)).mp r; omega
    have h' : BXr w (A ++ x :: C) := by rw [← a1]; exact h
    rw [a4]
    refine ⟨_, ?_, h'.set, fr w A.length _ _ _ _⟩
    rw [hr]
    unfold g_X12_packs_103
    rw [kif, if_neg ne, k_144 K33 K48 hP x (by omega) hi (h _ x hat)]
    have el : (A ++ bxP (zA S 302) (zA S 303) i x :: C).length = bs.length := by rw [a1, List.length_append, List.length_append]; rfl
    rw [el]
  · have hr : g_X12_packs_80 K33 K48 FU (nI bs.length) x3 (nI i) x5 0 w = g_X12_packs_103 K33 K48 (nI bs.length) x3 (nI i) x5 (nI bs.length) w := by
      rcases key with ⟨k, k1, k2, k3, k4⟩ | ⟨k1, k2⟩
      · have hx : bs[k]? = some (bs[k]'k1) := List.getElem?_eq_getElem k1
        rw [hx] at k2
        exact absurd k2 (a1 _ (List.getElem_mem k1))
      · exact k2
    rw [a2]
    obtain ⟨u, hu⟩ : ∃ u, u = mSA 64 bs.length 0 (mSA 63 bs.length 0 (mSA 62 bs.length 0 (mSA 61 bs.length 0 w))) := ⟨_, rfl⟩
    have hu2 : PFq w u := by rw [hu]; exact fr w _ _ _ _ _
    have hb : BXr u bs := by
      rw [hu]
      intro k z hk
      have e : ¬ k = bs.length := by have := (List.getElem?_eq_some_iff.mp hk).1; omega
      rw [m61, m62, m63, m64]
      rw [if_neg e, if_neg e, if_neg e, if_neg e]
      exact h k z hk
    have z0 : mA u 61 bs.length = 0 ∧ mA u 62 bs.length = 0 ∧ mA u 63 bs.length = 0 ∧ mA u 64 bs.length = 0 := by
      rw [hu, m61, m62, m63, m64]
      rw [if_pos rfl, if_pos rfl, if_pos rfl, if_pos rfl]
      exact ⟨rfl, rfl, rfl, rfl⟩
    refine ⟨_, ?_, hb.app (bxP (zA S 302) (zA S 303) i (0, 0, 0, 0)), hu2.tr (fr u bs.length _ _ _ _)⟩
    rw [hr]
    have run : g_X12_packs_103 K33 K48 (nI bs.length) x3 (nI i) x5 (nI bs.length) w = g_X12_packs_144 K33 K48 (nI (bs.length + 1)) x3 (nI i) x5 (nI bs.length) u := by
      rw [hu]
      simp only [g_X12_packs_103, kif, r_gb, gbn_s, r_grd, r_gbo, r_gret, r_gst, k_isIn, k_isSlot, k_isItem, k_isGroup, k_isRobot, k_are, k_holds0, k_holds1, k_holds2, k_holds3, k_bit, k_less, bI_t, bI_f, i10, i00, i01, i11, i20, i30, ↓reduceIte, r_gnI (show bs.length < mL 61 from hl) (show mL 61 < 2 ^ 31 by decide), r_gnI (show bs.length < mL 62 from hl) (show mL 62 < 2 ^ 31 by decide), r_gnI (show bs.length < mL 63 from hl) (show mL 63 < 2 ^ 31 by decide), r_gnI (show bs.length < mL 64 from hl) (show mL 64 < 2 ^ 31 by decide), nI_clamp (show bs.length < 2 ^ 31 by omega), nI_1]
    rw [run, k_144 K33 K48 (hP.fr hu2.to) (0, 0, 0, 0) hl hi z0, List.length_append]
    rfl
theorem k_putN (K33 : Int32 → Int32 → GM Int32) {i k : Nat} (hi : k % 6 = i) (hk : k < 54) {c : Nat} (hz : zA S 302 i = nI (9 - k / 6)) : ∀ (n f : Nat) (w : MS) (bs : List Bx) (a : Nat), PI S w → BXr w bs → mA w 60 i = nI c → c < 1000 → a + n = c → n < f → bs.length + n ≤ 297 → ∃ v, g_X12_packs_48 K33 f (nI bs.length) (nI k) (nI i) (nI a) w = K33 (nI (putN (zA S 302) (zA S 303) (zA S 304) (zA S 1115 0) i n bs).length) (nI (k + 1)) v ∧ BXr v (putN (zA S 302) (zA S 303) (zA S 304) (zA S 1115 0) i n bs) ∧ PFq w v := by
  have hi6 : i < 6 := by omega
  have e9 : (9 : Int32) - nI k / 6 = nI (9 - k / 6) := by
    rw [show (6 : Int32) = nI 6 from rfl, pk_div (by omega) (by decide) (by decide), show (9 : Int32) = nI 9 from rfl, pk_sub (by omega)]
  intro n
  induction n with
  | zero =>
    intro f w bs a hP h h60 hc ha hf hl
    obtain ⟨f, rfl⟩ : ∃ f', f = f' + 1 := ⟨f - 1, by omega⟩
    refine ⟨w, ?_, h, PFq.rf w⟩
    have e : a = c := by omega
    simp only [g_X12_packs_48, kif, r_gb, gbn_s, r_grd, r_gbo, r_gret, r_gst, k_isIn, k_isSlot, k_isItem, k_isGroup, k_isRobot, k_are, k_holds0, k_holds1, k_holds2, k_holds3, k_bit, k_less, bI_t, bI_f, i10, i00, i01, i11, i20, i30, ↓reduceIte, r_gnI (show i < mL 60 from hi6) (show mL 60 < 2 ^ 31 by decide), nI_clamp (show i < 2 ^ 31 by omega), h60, e, Int32.le_refl, nI_1]
    rfl
  | succ n ih =>
    intro f w bs a hP h h60 hc ha hf hl
    obtain ⟨f, rfl⟩ : ∃ f', f = f' + 1 := ⟨f - 1, by omega⟩
    obtain ⟨v, v1, v2, v3⟩ := k_put1 K33 (g_X12_packs_48 K33 f) hP hi6 h (by omega) (nI k) (nI a)
    have l1 := put1_len (z := zA S 302) (t := zA S 303) (g := zA S 304) (b := zA S 1115 0) (i := i) bs
    obtain ⟨u, u1, u2, u3⟩ := ih f v (put1 (zA S 302) (zA S 303) (zA S 304) (zA S 1115 0) i bs) (a + 1) (hP.fr v3.to) v2 (by rw [v3.2 60 (by decide)]; exact h60) hc (by omega) (by omega) (by omega)
    refine ⟨u, ?_, u2, v3.tr u3⟩
    rw [putN, ← u1, ← nI_1, ← v1]
    simp only [g_X12_packs_48, kif, r_gb, gbn_s, r_grd, r_gbo, r_gret, r_gst, k_isIn, k_isSlot, k_isItem, k_isGroup, k_isRobot, k_are, k_holds0, k_holds1, k_holds2, k_holds3, k_bit, k_less, bI_t, bI_f, i10, i00, i01, i11, i20, i30, ↓reduceIte, r_gnI (show i < mL 60 from hi6) (show mL 60 < 2 ^ 31 by decide), nI_clamp (show i < 2 ^ 31 by omega), h60, nI_ge (show a < c by omega) (show c < 2 ^ 31 by omega), r_gnI (show i < mL 10 from hi6) (show mL 10 < 2 ^ 31 by decide), (hP.1 i hi6).1, hz, e9]
/-- packing, whole -/
theorem k_pack33 (hP : PI S w) {c : Nat → Nat} (hz : ∀ i, i < 6 → tI (zA S 302 i) 1 9) (hc : c 0 + c 1 + c 2 + c 3 + c 4 + c 5 ≤ 297) (h60 : ∀ i, i < 6 → mA w 60 i = nI (c i)) : ∃ v, g_X12_packs_33 FU 0 0 w = some (nI (pkS (zA S 302) (zA S 303) (zA S 304) (zA S 1115 0) c 54).length, v) ∧ BXr v (pkS (zA S 302) (zA S 303) (zA S 304) (zA S 1115 0) c 54) ∧ PFq w v := by
  obtain ⟨v, a, ⟨i1, i2, i3⟩, e⟩ := g_loop (α := Int32) (fun f a j => g_X12_packs_33 f a j) 54 (fun k v a => a = nI (pkS (zA S 302) (zA S 303) (zA S 304) (zA S 1115 0) c k).length ∧ BXr v (pkS (zA S 302) (zA S 303) (zA S 304) (zA S 1115 0) c k) ∧ PFq w v) (fun a v => some (a, v)) (fun f k v a hk hI => by
    obtain ⟨i1, i2, i3⟩ := hI
    have h6 : k % 6 < 6 := Nat.mod_lt _ (by decide)
    have n54 : ¬ (54 : Int32) ≤ nI k := nI_ge (b := 54) hk (by decide)
    have e6 : nI k - nI k / 6 * 6 = nI (k % 6) := by rw [show (6 : Int32) = nI 6 from rfl, pk_rem (by omega) (by decide) (by decide)]
    have e9 : (9 : Int32) - nI k / 6 = nI (9 - k / 6) := by
      rw [show (6 : Int32) = nI 6 from rfl, pk_div (by omega) (by decide) (by decide), show (9 : Int32) = nI 9 from rfl, pk_sub (by omega)]
    obtain ⟨s1, s2, s3⟩ := dks_step (z := zA S 302) (c := c) hk hz
    have pl := pk_len (t := zA S 303) (g := zA S 304) (b := zA S 1115 0) (c := c) hz k (by omega)
    have hPv := hP.fr i3.to
    have h60v : mA v 60 (k % 6) = nI (c (k % 6)) := by rw [i3.2 60 (by decide)]; exact h60 _ h6
    have cle : c (k % 6) < 1000 := by
      rcases (show k % 6 = 0 ∨ k % 6 = 1 ∨ k % 6 = 2 ∨ k % 6 = 3 ∨ k % 6 = 4 ∨ k % 6 = 5 by omega) with r | r | r | r | r | r <;> (rw [r]; omega)
    have F := FU_gt (n := 1000) (by decide)
    rw [i1]
    by_cases q : zA S 302 (k % 6) = nI (9 - k / 6)
    · have cb : (pkS (zA S 302) (zA S 303) (zA S 304) (zA S 1115 0) c k).length + c (k % 6) ≤ 297 := by
        have := s1 q
        have h9 : dks (zA S 302) c (k + 1) ≤ c 0 + c 1 + c 2 + c 3 + c 4 + c 5 := by
          have one : ∀ i, dk (zA S 302) c (k + 1) i ≤ c i := fun i => by unfold dk; split <;> omega
          have o0 := one 0; have o1 := one 1; have o2 := one 2; have o3 := one 3; have o4 := one 4; have o5 := one 5
          unfold dks; omega
        omega
      obtain ⟨u, u1, u2, u3⟩ := k_putN (g_X12_packs_33 f) (k := k) rfl hk q (c (k % 6)) FU v _ 0 hPv i2 h60v cle (by omega) (by omega) cb
      refine ⟨u, nI (putN (zA S 302) (zA S 303) (zA S 304) (zA S 1115 0) (k % 6) (c (k % 6)) (pkS (zA S 302) (zA S 303) (zA S 304) (zA S 1115 0) c k)).length, ?_, by rw [pkS, if_pos q], by rw [pkS, if_pos q]; exact u2, i3.tr u3⟩
      have u1' : g_X12_packs_48 (g_X12_packs_33 f) FU (nI (pkS (zA S 302) (zA S 303) (zA S 304) (zA S 1115 0) c k).length) (nI k) (nI (k % 6)) 0 v = _ := u1
      rw [← u1']
      simp only [g_X12_packs_33, kif, n54, ↓reduceIte, r_gbo, e6]
    · refine ⟨v, nI (pkS (zA S 302) (zA S 303) (zA S 304) (zA S 1115 0) c k).length, ?_, by rw [pkS, if_neg q], by rw [pkS, if_neg q]; exact i2, i3⟩
      obtain ⟨F', hF'⟩ : ∃ F', FU = F' + 1 := ⟨FU - 1, by omega⟩
      have run : g_X12_packs_48 (g_X12_packs_33 f) FU (nI (pkS (zA S 302) (zA S 303) (zA S 304) (zA S 1115 0) c k).length) (nI k) (nI (k % 6)) 0 v = g_X12_packs_33 f (nI (pkS (zA S 302) (zA S 303) (zA S 304) (zA S 1115 0) c k).length) (nI (k + 1)) v := by
        rw [hF']
        by_cases q0 : nI (c (k % 6)) ≤ 0
        · simp only [g_X12_packs_48, kif, r_gb, gbn_s, r_grd, r_gbo, r_gret, r_gst, k_isIn, k_isSlot, k_isItem, k_isGroup, k_isRobot, k_are, k_holds0, k_holds1, k_holds2, k_holds3, k_bit, k_less, bI_t, bI_f, i10, i00, i01, i11, i20, i30, ↓reduceIte, r_gnI (show k % 6 < mL 60 from h6) (show mL 60 < 2 ^ 31 by decide), nI_clamp (show k % 6 < 2 ^ 31 by omega), h60v, q0, nI_1]
        · simp only [g_X12_packs_48, kif, r_gb, gbn_s, r_grd, r_gbo, r_gret, r_gst, k_isIn, k_isSlot, k_isItem, k_isGroup, k_isRobot, k_are, k_holds0, k_holds1, k_holds2, k_holds3, k_bit, k_less, bI_t, bI_f, i10, i00, i01, i11, i20, i30, ↓reduceIte, r_gnI (show k % 6 < mL 60 from h6) (show mL 60 < 2 ^ 31 by decide), nI_clamp (show k % 6 < 2 ^ 31 by omega), h60v, q0, r_gnI (show k % 6 < mL 10 from h6) (show mL 10 < 2 ^ 31 by decide), (hPv.1 _ h6).1, e9, q, nI_1]
      rw [← run]
      simp only [g_X12_packs_33, kif, n54, ↓reduceIte, r_gbo, e6]) (fun f v a hI => by
    simp only [g_X12_packs_33, kif, show (54 : Int32) ≤ nI 54 by decide, ↓reduceIte, r_gret]) FU (FU_gt (by decide)) (w := w) (a := 0) ⟨rfl, fun k x hk => by simp [pkS] at hk, PFq.rf w⟩
  rw [i1] at e
  exact ⟨v, e, i2, i3⟩
/-- what is at a stand, by items -/
def stC (S : Ss) (o i : Nat) : Nat := (zC S 1 (6 * (20 + o) + i)).toNatClampNeg
theorem nI_tn {x : Int32} (h : 0 ≤ x.toInt) : nI x.toNatClampNeg = x := by
  obtain ⟨j, hj, e⟩ := nI_of (x := x) (fun r => by have := I_lt.mp r; have e0 : (0 : Int32).toInt = 0 := rfl; omega)
  rw [e, nI_clamp hj]
theorem tn_toInt {x : Int32} (h : 0 ≤ x.toInt) : (x.toNatClampNeg : Int) = x.toInt := by
  obtain ⟨j, hj, e⟩ := nI_of (x := x) (fun r => by have := I_lt.mp r; have e0 : (0 : Int32).toInt = 0 := rfl; omega)
  rw [e, nI_clamp hj, nI_toInt hj]
theorem Rel.stSum {B k : Nat} (h : Rel B k S w) {o : Nat} (ho : o < zN S 7) (hs : zA S 705 o = 0) : stC S o 0 + stC S o 1 + stC S o 2 + stC S o 3 + stC S o 4 + stC S o 5 ≤ 297 := by
  have h8 := h.or.1
  have h12 := h.lo.1
  obtain ⟨n1, n2, n3⟩ := h.nn
  have e1 : ∀ i, i < 6 → (zC S 1 (6 * (20 + o) + i)).toInt = sz (List.range (zN S 5)) (fun l => if itS S l = i then (zC S 0 (12 * (20 + o) + l)).toInt else 0) := fun i hi => by
    rw [h.bk.2.1 (20 + o) i (by omega) hi, sm_toInt]
    · refine sz_cg _ fun l hl => ?_
      split <;> rfl
    · intro l hl
      have := List.mem_range.mp hl
      split
      · exact (n2 _ (by omega)).1
      · decide
    · have := sz_ub (z := fun l => ((if itS S l = i then zC S 0 (12 * (20 + o) + l) else 0 : Int32)).toInt) (c := 8000000) (List.range (zN S 5)) fun l hl => by
        have := List.mem_range.mp hl
        split
        · have := (n2 (12 * (20 + o) + l) (by omega)).2; omega
        · decide
      rw [List.length_range] at this
      omega
  have e2 : sz (List.range 6) (fun i => (zC S 1 (6 * (20 + o) + i)).toInt) = sz (List.range (zN S 5)) (fun l => (zC S 0 (12 * (20 + o) + l)).toInt) := by
    rw [sz_cg (y := fun i => sz (List.range (zN S 5)) (fun l => if itS S l = i then (zC S 0 (12 * (20 + o) + l)).toInt else 0)) _ fun i hi => e1 i (List.mem_range.mp hi), sz_comm]
    refine sz_cg _ fun l hl => ?_
    have hi := (h.lo.2.2.2.1 l (List.mem_range.mp hl)).2.2.2.2.2.1
    have : ∀ (x : Int) (j : Nat), j < 6 → sz (List.range 6) (fun i => if j = i then x else 0) = x := fun x j hj => by
      rcases (show j = 0 ∨ j = 1 ∨ j = 2 ∨ j = 3 ∨ j = 4 ∨ j = 5 by omega) with r | r | r | r | r | r <;> (subst r; simp [List.range, List.range.loop, sz])
    exact this _ _ hi
  have e3 := h.st.1 o ho hs
  have e4 : sz (zL S 704 o) (fun j => (zA S 403 j).toInt) ≤ (zL S 704 o).length * (99 : Nat) := sz_ub _ fun j hj => by
    obtain ⟨p, hp, hpj⟩ := List.mem_iff_getElem.mp hj
    have := ((h.li.1 o ho).2.2 p j (List.getElem?_eq_some_iff.mpr ⟨hp, hpj⟩)).2.2.2.2.2.2.1
    exact this.2
  have e5 := (h.li.1 o ho).1
  rw [← e2] at e3
  have e6 : sz (List.range 6) (fun i => (zC S 1 (6 * (20 + o) + i)).toInt) = (stC S o 0 : Int) + stC S o 1 + stC S o 2 + stC S o 3 + stC S o 4 + stC S o 5 := by
    have t : ∀ i, i < 6 → (stC S o i : Int) = (zC S 1 (6 * (20 + o) + i)).toInt := fun i hi => tn_toInt (h.n1 (by omega) hi)
    rw [t 0 (by decide), t 1 (by decide), t 2 (by decide), t 3 (by decide), t 4 (by decide), t 5 (by decide)]
    simp [List.range, List.range.loop, sz]
    omega
  omega
/-- what the reference packs for an order that isn't sent -/
def pkn (S : Ss) (o : Nat) : List Bx := pkS (zA S 302) (zA S 303) (zA S 304) (zA S 1115 0) (stC S o) 54
theorem Rel.kPacks {B k : Nat} (h : Rel B k S w) {o : Nat} (ho : o < zN S 7) (hs : zA S 705 o = 0) : ∃ v, g_X12_packs (nI o) w = some (nI (pkn S o).length, v) ∧ BXr v (pkn S o) ∧ PFr w v := by
  have h8 := h.or.1
  have hz : ∀ i, i < 6 → tI (zA S 302 i) 1 9 := fun i hi => (h.it i hi).2.2.2.2.2.2.1
  obtain ⟨u, -, ⟨i1, i2⟩, e⟩ := g_loop (α := Unit) (fun f _ j => g_X12_packs_4 f (nI o) 0 j) 6 (fun j u _ => (∀ i, i < j → mA u 60 i = nI (stC S o i)) ∧ mI u = mI w ∧ ∀ k, k ≠ 60 → mA u k = mA w k) (fun _ u => g_X12_packs_33 FU 0 0 u) (fun f j u _ hj hI => by
    obtain ⟨i1, i2, i3⟩ := hI
    have hRu : Rel B k S u := by
      have hA : ∀ f, True → zA S f = zA S f := fun f _ => rfl
      have hO : ∀ f, True → zO S f = zO S f := fun f _ => rfl
      have hL : ∀ f, True → zL S f = zL S f := fun f _ => rfl
      have hC : ∀ f, True → zC S f = zC S f := fun f _ => rfl
      have hN : ∀ f, True → zN S f = zN S f := fun f _ => rfl
      have hM : zM S = zM S := rfl
      have hI : ∀ f, True → mI u f = mI w f := fun f _ => by rw [i2]
      have hB := i3
      exact ⟨(cg_sl (hA 900 (by decide)) (hA 901 (by decide)) (hA 903 (by decide)) (hA 904 (by decide)) (hO 902 (by decide)) (hB 4 (by decide)) (hB 5 (by decide)) (hB 6 (by decide)) (hB 7 (by decide)) (hB 8 (by decide)) h.sl), (cg_it (hA 300 (by decide)) (hA 301 (by decide)) (hA 302 (by decide)) (hA 303 (by decide)) (hA 304 (by decide)) (hA 305 (by decide)) (hB 9 (by decide)) (hB 10 (by decide)) (hB 11 (by decide)) (hB 12 (by decide)) (hB 13 (by decide)) h.it), (cg_ba (hA 1115 (by decide)) (hB 14 (by decide)) h.ba), (cg_sc (hA 1116 (by decide)) (hA 1118 (by decide)) (hA 1117 (by decide)) (hI 1 (by decide)) (hI 2 (by decide)) (hI 3 (by decide)) h.sc), (cg_lo (hN 5 (by decide)) (hL 1103 (by decide)) (hA 500 (by decide)) (hA 502 (by decide)) (hA 503 (by decide)) (hO 501 (by decide)) (hI 15 (by decide)) (hB 16 (by decide)) (hB 17 (by decide)) (hB 18 (by decide)) h.lo), (cg_be (hL 1104 (by decide)) (hN 5 (by decide)) (hA 502 (by decide)) h.be), (cg_no (hN 6 (by decide)) (hL 1105 (by decide)) (hO 600 (by decide)) (hA 601 (by decide)) (hA 602 (by decide)) (hI 22 (by decide)) (hB 23 (by decide)) (hB 24 (by decide)) (hB 25 (by decide)) h.no), (cg_ca (hC 1110 (by decide)) (hB 26 (by decide)) h.ca), (cg_aw (hC 1111 (by decide)) (hN 7 (by decide)) (hA 705 (by decide)) (hB 33 (by decide)) h.aw), (cg_or (hN 7 (by decide)) (hN 72 (by decide)) (hL 1106 (by decide)) (hA 700 (by decide)) (hA 701 (by decide)) (hA 702 (by decide)) (hA 703 (by decide)) (hA 705 (by decide)) (hI 27 (by decide)) (hB 28 (by decide)) (hB 29 (by decide)) (hB 30 (by decide)) (hB 31 (by decide)) (hB 32 (by decide)) h.or), (cg_li (hN 7 (by decide)) (hL 704 (by decide)) (hN 4 (by decide)) (hO 400 (by decide)) (hA 401 (by decide)) (hA 402 (by decide)) (hA 403 (by decide)) (hB 31 (by decide)) (hB 36 (by decide)) (hB 37 (by decide)) (hB 38 (by decide)) h.li), (cg_bk (hC 0 (by decide)) (hC 1 (by decide)) (hN 5 (by decide)) (hO 501 (by decide)) (hB 19 (by decide)) h.bk), (cg_nn (hC 0 (by decide)) (hC 2 (by decide)) h.nn), (cg_tr (hC 2 (by decide)) (hC 0 (by decide)) (hB 20 (by decide)) h.tr), (cg_db (hC 5 (by decide)) (hB 21 (by decide)) h.db), (cg_mv (hA 7 (by decide)) (hN 60 (by decide)) hM (hC 0 (by decide)) h.mv), (cg_ho (hL 1107 (by decide)) (hN 2 (by decide)) (hA 204 (by decide)) (hN 5 (by decide)) (hO 203 (by decide)) (hA 202 (by decide)) (hO 200 (by decide)) (hO 201 (by decide)) (hO 205 (by decide)) (hN 7 (by decide)) (hL 704 (by decide)) (hA 705 (by decide)) (hN 10 (by decide)) (hO 1002 (by decide)) (hA 1005 (by decide)) (hA 1004 (by decide)) h.ho), (cg_hs (hC 3 (by decide)) (hL 1107 (by decide)) (hA 202 (by decide)) (hO 203 (by decide)) (hA 204 (by decide)) (hC 0 (by decide)) (hN 4 (by decide)) (hA 402 (by decide)) (hO 201 (by decide)) h.hs), (cg_hm (hI 39 (by decide)) (hL 1107 (by decide)) (hO 200 (by decide)) (hO 201 (by decide)) (hO 203 (by decide)) (hL 704 (by decide)) (hA 202 (by decide)) (hA 204 (by decide)) (hO 205 (by decide)) (hB 40 (by decide)) (hB 41 (by decide)) (hB 42 (by decide)) (hB 43 (by decide)) (hB 44 (by decide)) h.hm), (cg_ta (hN 10 (by decide)) (hL 1108 (by decide)) (hI 45 (by decide)) (hA 1000 (by decide)) (hA 1001 (by decide)) (hA 1003 (by decide)) (hA 1004 (by decide)) (hA 1005 (by decide)) (hA 1006 (by decide)) (hO 1002 (by decide)) (hN 2 (by decide)) (hO 203 (by decide)) (hN 5 (by decide)) (hL 1107 (by decide)) (hO 205 (by decide)) (hO 200 (by decide)) (hO 201 (by decide)) (hA 202 (by decide)) (hN 7 (by decide)) (hL 704 (by decide)) (hB 46 (by decide)) (hB 47 (by decide)) (hB 48 (by decide)) (hB 49 (by decide)) (hB 50 (by decide)) (hB 51 (by decide)) (hB 52 (by decide)) (hB 54 (by decide)) h.ta), (cg_ap (hC 4 (by decide)) (hN 10 (by decide)) (hA 1005 (by decide)) (hA 1001 (by decide)) (hA 1003 (by decide)) (hA 1004 (by decide)) (hO 501 (by decide)) (hO 203 (by decide)) (hO 1002 (by decide)) (hO 902 (by decide)) h.ap), (cg_ro (hA 801 (by decide)) (hA 802 (by decide)) (hL 800 (by decide)) (hA 1005 (by decide)) (hN 10 (by decide)) (hB 53 (by decide)) (hB 55 (by decide)) (hB 56 (by decide)) (hB 58 (by decide)) (hB 59 (by decide)) h.ro), (cg_st (hN 7 (by decide)) (hA 705 (by decide)) (hN 5 (by decide)) (hC 0 (by decide)) (hL 704 (by decide)) (hA 403 (by decide)) h.st), (cg_bx (hN 7 (by decide)) (hA 705 (by decide)) (hA 706 (by decide)) (hC 1112 (by decide)) (hA 302 (by decide)) (hA 303 (by decide)) (hA 304 (by decide)) (hO 501 (by decide)) (hN 5 (by decide)) (hB 34 (by decide)) (hB 35 (by decide)) h.bx)⟩
    have e20 : (20 : Int32) + nI o = nI (20 + o) := by rw [show (20 : Int32) = nI 20 from rfl, nI_add]
    have n6 : ¬ (6 : Int32) ≤ nI j := nI_ge (b := 6) hj (by decide)
    refine ⟨mSA 60 j (zC S 1 (6 * (20 + o) + j)) u, (), ?_, fun i hi => ?_, i2, fun k hk => by rw [fBA hk]; exact i3 k hk⟩
    · simp only [g_X12_packs_4, kif, r_gb, gbn_s, r_grd, r_gbo, r_gret, r_gst, k_isIn, k_isSlot, k_isItem, k_isGroup, k_isRobot, k_are, k_holds0, k_holds1, k_holds2, k_holds3, k_bit, k_less, bI_t, bI_f, i10, i00, i01, i11, i20, i30, ↓reduceIte, n6, e20, hRu.kItem (show 20 + o < 28 by omega) hj, r_gnI (show j < mL 60 from hj) (show mL 60 < 2 ^ 31 by decide), nI_clamp (show j < 2 ^ 31 by omega), nI_1]
    · rw [sBA]
      by_cases q : i = j
      · rw [if_pos q, q]
        exact (nI_tn (h.n1 (by omega) hj)).symm
      · rw [if_neg q]; exact i1 i (by omega)) (fun f u _ hI => by
    simp only [g_X12_packs_4, kif, show (6 : Int32) ≤ nI 6 by decide, ↓reduceIte]) FU (FU_gt (by decide)) (w := w) (a := ()) ⟨fun i hi => absurd hi (by omega), rfl, fun _ _ => rfl⟩
  have hf : PFr w u := ⟨i2.1, fun k hk => i2.2 k hk.1⟩
  obtain ⟨v, v1, v2, v3⟩ := k_pack33 (h.pi.fr hf) (c := stC S o) hz (h.stSum ho hs) i1
  exact ⟨v, e.trans v1, v2, hf.tr v3.to⟩
end
