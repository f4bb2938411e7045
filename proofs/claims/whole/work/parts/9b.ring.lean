/-! standstills -/
def nxt (S : Ss) (q : Nat) : Option Nat := if zA S 803 q = -1 then none else (List.range 3).find? fun p => decide (zA S 801 p = zA S 803 q)
def rg (S : Ss) (q : Nat) (n : Nat) (o : Option Nat) : Bool := match n with
  | 0 => false
  | m + 1 => match o.bind (nxt S) with
    | none => false
    | some z => if z = q then true else rg S q m (some z)
def rgS (S : Ss) (q d : Nat) (o : Option Nat) : Bool := match o with
  | none => false
  | some z => if z = q then true else rg S q d (some z)
theorem rg_s {S : Ss} {q d z : Nat} : rg S q (d + 1) (some z) = rgS S q d (nxt S z) := rfl
section
variable {B k : Nat} {S T : Ss} {w v : MS}
theorem nxt_n {q : Nat} (h : zA S 803 q = -1) : nxt S q = none := if_pos h
theorem nxt_e {q : Nat} {o : Option Nat} (hu : ∀ p p', p < 3 → p' < 3 → zA S 801 p = zA S 801 p' → ¬ zA S 801 p = -1 → p = p') (hq : ¬ zA S 803 q = -1) (h1 : o = none → ∀ p, p < 3 → ¬ zA S 801 p = zA S 803 q) (h2 : ∀ p, o = some p → p < 3 ∧ zA S 801 p = zA S 803 q) : nxt S q = o := by
  unfold nxt
  rw [if_neg hq]
  cases hf : (List.range 3).find? (fun p => decide (zA S 801 p = zA S 803 q)) with
  | none =>
    have := List.find?_eq_none.mp hf
    cases o with
    | none => rfl
    | some p =>
      obtain ⟨p1, p2⟩ := h2 p rfl
      exact absurd (decide_eq_true p2) (this p (List.mem_range.mpr p1))
  | some p =>
    have e0 := List.find?_some hf
    have e1 := of_decide_eq_true (p := zA S 801 p = zA S 803 q) e0
    have e2 := List.mem_range.mp (List.mem_of_find?_eq_some hf)
    cases o with
    | none => exact absurd e1 (h1 rfl p e2)
    | some p' =>
      obtain ⟨p1, p2⟩ := h2 p' rfl
      rw [hu p p' e2 p1 (e1.trans p2.symm) (by rw [e1]; exact hq)]
theorem nxt_3 {q p : Nat} (h : nxt S q = some p) : p < 3 := by
  unfold nxt at h
  split at h
  · cases h
  · exact List.mem_range.mp (List.mem_of_find?_eq_some h)
theorem rg_n {q : Nat} : ∀ n, rg S q n none = false
  | 0 => rfl
  | _ + 1 => rfl
theorem Rel.unq (h : Rel B k S w) : ∀ p p', p < 3 → p' < 3 → zA S 801 p = zA S 801 p' → ¬ zA S 801 p = -1 → p = p' := fun p p' hp hp' e n => h.ro.2.1 p p' hp hp' e n
theorem Rel.eRing (h : Rel B k S w) (q : Nat) : ∀ d i z, i + d = 3 → z < 3 → ∀ f, d < f → (f_X11_isInRing_4 f q (some z) (nI i)).1 S = some (bI (rg S q d (some z)), S)
  | 0, i, z, hi, hz, f, hf => by
    obtain ⟨f, rfl⟩ : ∃ f', f = f' + 1 := ⟨f - 1, by omega⟩
    have e : i = 3 := by omega
    subst e
    simp only [f_X11_isInRing_4, r_mb, bnd_s, r_mrd, r_mbo, r_mret, r_mthr, r_wA, r_wO, r_madd, r_mput, r_mopt, r_mcn, r_mcs, ite_f, e_isWithin, e_isSlot, e_isItem, e_isGroup, e_isRobot, e_isLot, e_isNotice, e_isOrder, e_isTask, bI_t, bI_f, i10, i00, i01, i11, i20, i30, ↓reduceIte, show nI (aLn 1102) ≤ nI 3 by decide]
    rfl
  | d + 1, i, z, hi, hz, f, hf => by
    obtain ⟨f, rfl⟩ : ∃ f', f = f' + 1 := ⟨f - 1, by omega⟩
    have h3 : ¬ nI (aLn 1102) ≤ nI i := nI_ge (show i < aLn 1102 by show i < 3; omega) (by decide)
    by_cases q0 : zA S 803 z = -1
    · have e : rg S q (d + 1) (some z) = false := by
        show (match nxt S z with | none => false | some z => if z = q then true else rg S q d (some z)) = false
        rw [nxt_n q0]
      rw [e]
      simp only [f_X11_isInRing_4, f_X11_isInRing_33, f_X11_isInRing_43, r_mb, bnd_s, r_mrd, r_mbo, r_mret, r_mthr, r_wA, r_wO, r_madd, r_mput, r_mopt, r_mcn, r_mcs, ite_f, e_isWithin, e_isSlot, e_isItem, e_isGroup, e_isRobot, e_isLot, e_isNotice, e_isOrder, e_isTask, bI_t, bI_f, i10, i00, i01, i11, i20, i30, ↓reduceIte, h3, q0]
    · obtain ⟨o, o1, o2, o3⟩ := e_robotIn (S := S) (zA S 803 z)
      have en := nxt_e h.unq q0 o2 o3
      rw [rg_s, en]
      cases o with
      | none =>
        show _ = some (bI false, S)
        simp only [f_X11_isInRing_4, f_X11_isInRing_33, f_X11_isInRing_43, r_mb, bnd_s, r_mrd, r_mbo, r_mret, r_mthr, r_wA, r_wO, r_madd, r_mput, r_mopt, r_mcn, r_mcs, ite_f, e_isWithin, e_isSlot, e_isItem, e_isGroup, e_isRobot, e_isLot, e_isNotice, e_isOrder, e_isTask, bI_t, bI_f, i10, i00, i01, i11, i20, i30, ↓reduceIte, h3, q0, o1]
      | some p =>
        show _ = some (bI (if p = q then true else rg S q d (some p)), S)
        by_cases e : p = q
        · have e' : some p = some q := by rw [e]
          simp only [f_X11_isInRing_4, f_X11_isInRing_33, f_X11_isInRing_43, r_mb, bnd_s, r_mrd, r_mbo, r_mret, r_mthr, r_wA, r_wO, r_madd, r_mput, r_mopt, r_mcn, r_mcs, ite_f, e_isWithin, e_isSlot, e_isItem, e_isGroup, e_isRobot, e_isLot, e_isNotice, e_isOrder, e_isTask, bI_t, bI_f, i10, i00, i01, i11, i20, i30, ↓reduceIte, h3, q0, o1, e', if_pos e]
        · have e' : ¬ some p = some q := fun r => e (Option.some.inj r)
          simp only [f_X11_isInRing_4, f_X11_isInRing_33, f_X11_isInRing_43, r_mb, bnd_s, r_mrd, r_mbo, r_mret, r_mthr, r_wA, r_wO, r_madd, r_mput, r_mopt, r_mcn, r_mcs, ite_f, e_isWithin, e_isSlot, e_isItem, e_isGroup, e_isRobot, e_isLot, e_isNotice, e_isOrder, e_isTask, bI_t, bI_f, i10, i00, i01, i11, i20, i30, ↓reduceIte, h3, q0, o1, e', if_neg e, nI_1]
          exact h.eRing q d (i + 1) p (by omega) (o3 p rfl).1 f (by omega)
theorem Rel.kNextOf (h : Rel B k S w) (hw : ∀ r, r < 3 → mA w 57 r = zA S 803 r) {z : Nat} (hz : z < 3) : g_X12_nextOf (nI z) w = some (fcI (nxt S z), w) := by
  have h57 := hw z hz
  obtain ⟨v, a, ⟨i1, i2⟩, e⟩ := g_loop (α := Int32) (fun f a j => g_X12_nextOf_4 f (nI z) a j) 3 (fun i v a => v = w ∧ ((∃ p, p < i ∧ (¬ zA S 803 z = -1 ∧ zA S 801 p = zA S 803 z) ∧ a = nI p) ∨ ((∀ p, p < i → ¬ (¬ zA S 803 z = -1 ∧ zA S 801 p = zA S 803 z)) ∧ a = -1))) (fun a v => some (a, v)) (fun f i v a hi hI => by
    obtain ⟨rfl, hI⟩ := hI
    have h3 : ¬ (3 : Int32) ≤ nI i := nI_ge (b := 3) hi (by decide)
    have a55 := (h.ro.1 i hi).1
    by_cases q0 : zA S 803 z = -1
    · refine ⟨v, a, ?_, rfl, ?_⟩
      · simp only [g_X12_nextOf_4, kif, r_gb, gbn_s, r_grd, r_gbo, r_gret, r_gst, k_isIn, k_isSlot, k_isItem, k_isGroup, k_isRobot, k_are, k_holds0, k_holds1, k_holds2, k_holds3, k_bit, k_less, bI_t, bI_f, i10, i00, i01, i11, i20, i30, ↓reduceIte, h3, r_gnI (show z < mL 57 from hz) (show mL 57 < 2 ^ 31 by decide), nI_clamp (show z < 2 ^ 31 by omega), h57, q0, nI_1]
      · rcases hI with ⟨p, p1, ⟨p2, -⟩, -⟩ | ⟨p1, p2⟩
        · exact absurd q0 p2
        · exact Or.inr ⟨fun p _ r => r.1 q0, p2⟩
    · by_cases q1 : zA S 801 i = zA S 803 z
      · refine ⟨v, nI i, ?_, rfl, Or.inl ⟨i, by omega, ⟨q0, q1⟩, rfl⟩⟩
        simp only [g_X12_nextOf_4, kif, r_gb, gbn_s, r_grd, r_gbo, r_gret, r_gst, k_isIn, k_isSlot, k_isItem, k_isGroup, k_isRobot, k_are, k_holds0, k_holds1, k_holds2, k_holds3, k_bit, k_less, bI_t, bI_f, i10, i00, i01, i11, i20, i30, ↓reduceIte, h3, r_gnI (show z < mL 57 from hz) (show mL 57 < 2 ^ 31 by decide), nI_clamp (show z < 2 ^ 31 by omega), h57, q0, r_gnI (show i < mL 55 from hi) (show mL 55 < 2 ^ 31 by decide), nI_clamp (show i < 2 ^ 31 by omega), a55, q1, nI_1]
      · refine ⟨v, a, ?_, rfl, ?_⟩
        · simp only [g_X12_nextOf_4, kif, r_gb, gbn_s, r_grd, r_gbo, r_gret, r_gst, k_isIn, k_isSlot, k_isItem, k_isGroup, k_isRobot, k_are, k_holds0, k_holds1, k_holds2, k_holds3, k_bit, k_less, bI_t, bI_f, i10, i00, i01, i11, i20, i30, ↓reduceIte, h3, r_gnI (show z < mL 57 from hz) (show mL 57 < 2 ^ 31 by decide), nI_clamp (show z < 2 ^ 31 by omega), h57, q0, r_gnI (show i < mL 55 from hi) (show mL 55 < 2 ^ 31 by decide), nI_clamp (show i < 2 ^ 31 by omega), a55, q1, nI_1]
        · rcases hI with ⟨p, p1, p2, p3⟩ | ⟨p1, p2⟩
          · exact Or.inl ⟨p, by omega, p2, p3⟩
          · refine Or.inr ⟨fun p hp r => ?_, p2⟩
            by_cases e : p = i
            · rw [e] at r; exact q1 r.2
            · exact p1 p (by omega) r) (fun f v a hI => by
    obtain ⟨rfl, -⟩ := hI
    simp only [g_X12_nextOf_4, kif, r_gb, gbn_s, r_grd, r_gbo, r_gret, r_gst, k_isIn, k_isSlot, k_isItem, k_isGroup, k_isRobot, k_are, k_holds0, k_holds1, k_holds2, k_holds3, k_bit, k_less, bI_t, bI_f, i10, i00, i01, i11, i20, i30, ↓reduceIte, show (3 : Int32) ≤ nI 3 by decide]) FU (FU_gt (by omega)) (w := w) (a := -1) ⟨rfl, Or.inr ⟨fun p hp => absurd hp (by omega), rfl⟩⟩
  subst i1
  have e' : g_X12_nextOf (nI z) v = g_X12_nextOf_4 FU (nI z) (-1) 0 v := rfl
  rw [e', e]
  congr 2
  rcases i2 with ⟨p, p1, ⟨p2, p3⟩, p4⟩ | ⟨p1, p2⟩
  · have en := nxt_e (o := some p) h.unq p2 (fun r => by cases r) (fun p' r => by cases r; exact ⟨p1, p3⟩)
    rw [en, p4]; rfl
  · by_cases q0 : zA S 803 z = -1
    · rw [nxt_n q0, p2]; rfl
    · have en := nxt_e (o := none) h.unq q0 (fun _ p hp r => p1 p hp ⟨q0, r⟩) (fun p' r => by cases r)
      rw [en, p2]; rfl
theorem Rel.kRing (h : Rel B k S w) (hw : ∀ r, r < 3 → mA w 57 r = zA S 803 r) {q : Nat} (hq : q < 3) : ∀ d i (o : Option Nat), i + d = 3 → (∀ z, o = some z → z < 3) → ∀ f, d < f → g_X12_isInRing_4 f (nI q) (fcI o) (nI i) w = some (bI (rg S q d o), w)
  | 0, i, o, hi, ho, f, hf => by
    obtain ⟨f, rfl⟩ : ∃ f', f = f' + 1 := ⟨f - 1, by omega⟩
    have e : i = 3 := by omega
    subst e
    simp only [g_X12_isInRing_4, kif, r_gb, gbn_s, r_grd, r_gbo, r_gret, r_gst, k_isIn, k_isSlot, k_isItem, k_isGroup, k_isRobot, k_are, k_holds0, k_holds1, k_holds2, k_holds3, k_bit, k_less, bI_t, bI_f, i10, i00, i01, i11, i20, i30, ↓reduceIte, show (3 : Int32) ≤ nI 3 by decide]
    rfl
  | d + 1, i, o, hi, ho, f, hf => by
    obtain ⟨f, rfl⟩ : ∃ f', f = f' + 1 := ⟨f - 1, by omega⟩
    have h3 : ¬ (3 : Int32) ≤ nI i := nI_ge (b := 3) (by omega) (by decide)
    have nq : ¬ (-1 : Int32) = nI q := nI_ne1 q (by omega)
    have zn : fcI none = (-1 : Int32) := rfl
    cases o with
    | none =>
      have ih := h.kRing hw hq d (i + 1) none (by omega) (fun z r => by cases r) f (by omega)
      rw [zn] at ih
      rw [zn, rg_n] at *
      simp only [g_X12_isInRing_4, g_X12_isInRing_23, kif, r_gb, gbn_s, r_grd, r_gbo, r_gret, r_gst, k_isIn, k_isSlot, k_isItem, k_isGroup, k_isRobot, k_are, k_holds0, k_holds1, k_holds2, k_holds3, k_bit, k_less, bI_t, bI_f, i10, i00, i01, i11, i20, i30, ↓reduceIte, h3, nq, nI_1]
      exact ih
    | some z =>
      have hz := ho z rfl
      have zs : fcI (some z) = nI z := rfl
      have nz : ¬ nI z = (-1 : Int32) := fun r => nI_ne1 z (by omega) r.symm
      have kn := h.kNextOf hw hz
      rw [rg_s, zs]
      cases hn : nxt S z with
      | none =>
        have ih := h.kRing hw hq d (i + 1) none (by omega) (fun z r => by cases r) f (by omega)
        rw [zn, rg_n] at ih
        rw [hn, zn] at kn
        show _ = some (bI false, w)
        simp only [g_X12_isInRing_4, g_X12_isInRing_23, kif, r_gb, gbn_s, r_grd, r_gbo, r_gret, r_gst, k_isIn, k_isSlot, k_isItem, k_isGroup, k_isRobot, k_are, k_holds0, k_holds1, k_holds2, k_holds3, k_bit, k_less, bI_t, bI_f, i10, i00, i01, i11, i20, i30, ↓reduceIte, h3, nz, kn, nq, nI_1]
        exact ih
      | some p =>
        have hp := nxt_3 hn
        have ps : fcI (some p) = nI p := rfl
        have ih := h.kRing hw hq d (i + 1) (some p) (by omega) (fun z r => by cases r; exact hp) f (by omega)
        rw [ps] at ih
        rw [hn, ps] at kn
        show _ = some (bI (if p = q then true else rg S q d (some p)), w)
        by_cases e : p = q
        · have e' : nI p = nI q := by rw [e]
          simp only [g_X12_isInRing_4, g_X12_isInRing_23, kif, r_gb, gbn_s, r_grd, r_gbo, r_gret, r_gst, k_isIn, k_isSlot, k_isItem, k_isGroup, k_isRobot, k_are, k_holds0, k_holds1, k_holds2, k_holds3, k_bit, k_less, bI_t, bI_f, i10, i00, i01, i11, i20, i30, ↓reduceIte, h3, nz, kn, e', if_pos e]
        · have e' : ¬ nI p = nI q := fun r => e ((nI_eq (by omega) (by omega)).mp r)
          simp only [g_X12_isInRing_4, g_X12_isInRing_23, kif, r_gb, gbn_s, r_grd, r_gbo, r_gret, r_gst, k_isIn, k_isSlot, k_isItem, k_isGroup, k_isRobot, k_are, k_holds0, k_holds1, k_holds2, k_holds3, k_bit, k_less, bI_t, bI_f, i10, i00, i01, i11, i20, i30, ↓reduceIte, h3, nz, kn, e', if_neg e, nI_1]
          exact ih
theorem Rel.stc (h : Rel B k S w) (x : Int32) : Rel B k (pA 1117 0 x S) (mSI 3 x w) := by
  have hA : ∀ f, f ≠ 1117 → zA (pA 1117 0 x S) f = zA S f := fun f hf => fAA hf
  have hO : ∀ f, True → zO (pA 1117 0 x S) f = zO S f := fun f _ => rfl
  have hL : ∀ f, True → zL (pA 1117 0 x S) f = zL S f := fun f _ => rfl
  have hC : ∀ f, True → zC (pA 1117 0 x S) f = zC S f := fun f _ => rfl
  have hN : ∀ f, True → zN (pA 1117 0 x S) f = zN S f := fun f _ => rfl
  have hM : zM (pA 1117 0 x S) = zM S := rfl
  have hI : ∀ f, f ≠ 3 → mI (mSI 3 x w) f = mI w f := fun f hf => fII hf
  have hB : ∀ f, True → mA (mSI 3 x w) f = mA w f := fun f _ => rfl
  have sc : g_sc (pA 1117 0 x S) (mSI 3 x w) := by
    obtain ⟨a1, a2, a3⟩ := h.sc
    unfold g_sc
    rw [hA 1116 (by decide), hA 1118 (by decide), hI 1 (by decide), hI 2 (by decide), sII, sAA, if_pos rfl]
    exact ⟨a1, a2, rfl⟩
  exact ⟨(cg_sl (hA 900 (by decide)) (hA 901 (by decide)) (hA 903 (by decide)) (hA 904 (by decide)) (hO 902 (by decide)) (hB 4 (by decide)) (hB 5 (by decide)) (hB 6 (by decide)) (hB 7 (by decide)) (hB 8 (by decide)) h.sl), (cg_it (hA 300 (by decide)) (hA 301 (by decide)) (hA 302 (by decide)) (hA 303 (by decide)) (hA 304 (by decide)) (hA 305 (by decide)) (hB 9 (by decide)) (hB 10 (by decide)) (hB 11 (by decide)) (hB 12 (by decide)) (hB 13 (by decide)) h.it), (cg_ba (hA 1115 (by decide)) (hB 14 (by decide)) h.ba), sc, (cg_lo (hN 5 (by decide)) (hL 1103 (by decide)) (hA 500 (by decide)) (hA 502 (by decide)) (hA 503 (by decide)) (hO 501 (by decide)) (hI 15 (by decide)) (hB 16 (by decide)) (hB 17 (by decide)) (hB 18 (by decide)) h.lo), (cg_be (hL 1104 (by decide)) (hN 5 (by decide)) (hA 502 (by decide)) h.be), (cg_no (hN 6 (by decide)) (hL 1105 (by decide)) (hO 600 (by decide)) (hA 601 (by decide)) (hA 602 (by decide)) (hI 22 (by decide)) (hB 23 (by decide)) (hB 24 (by decide)) (hB 25 (by decide)) h.no), (cg_ca (hC 1110 (by decide)) (hB 26 (by decide)) h.ca), (cg_aw (hC 1111 (by decide)) (hN 7 (by decide)) (hA 705 (by decide)) (hB 33 (by decide)) h.aw), (cg_or (hN 7 (by decide)) (hN 72 (by decide)) (hL 1106 (by decide)) (hA 700 (by decide)) (hA 701 (by decide)) (hA 702 (by decide)) (hA 703 (by decide)) (hA 705 (by decide)) (hI 27 (by decide)) (hB 28 (by decide)) (hB 29 (by decide)) (hB 30 (by decide)) (hB 31 (by decide)) (hB 32 (by decide)) h.or), (cg_li (hN 7 (by decide)) (hL 704 (by decide)) (hN 4 (by decide)) (hO 400 (by decide)) (hA 401 (by decide)) (hA 402 (by decide)) (hA 403 (by decide)) (hB 31 (by decide)) (hB 36 (by decide)) (hB 37 (by decide)) (hB 38 (by decide)) h.li), (cg_bk (hC 0 (by decide)) (hC 1 (by decide)) (hN 5 (by decide)) (hO 501 (by decide)) (hB 19 (by decide)) h.bk), (cg_nn (hC 0 (by decide)) (hC 2 (by decide)) h.nn), (cg_tr (hC 2 (by decide)) (hC 0 (by decide)) (hB 20 (by decide)) h.tr), (cg_db (hC 5 (by decide)) (hB 21 (by decide)) h.db), (cg_mv (hA 7 (by decide)) (hN 60 (by decide)) hM (hC 0 (by decide)) h.mv), (cg_ho (hL 1107 (by decide)) (hN 2 (by decide)) (hA 204 (by decide)) (hN 5 (by decide)) (hO 203 (by decide)) (hA 202 (by decide)) (hO 200 (by decide)) (hO 201 (by decide)) (hO 205 (by decide)) (hN 7 (by decide)) (hL 704 (by decide)) (hA 705 (by decide)) (hN 10 (by decide)) (hO 1002 (by decide)) (hA 1005 (by decide)) (hA 1004 (by decide)) h.ho), (cg_hs (hC 3 (by decide)) (hL 1107 (by decide)) (hA 202 (by decide)) (hO 203 (by decide)) (hA 204 (by decide)) (hC 0 (by decide)) (hN 4 (by decide)) (hA 402 (by decide)) (hO 201 (by decide)) h.hs), (cg_hm (hI 39 (by decide)) (hL 1107 (by decide)) (hO 200 (by decide)) (hO 201 (by decide)) (hO 203 (by decide)) (hL 704 (by decide)) (hA 202 (by decide)) (hA 204 (by decide)) (hO 205 (by decide)) (hB 40 (by decide)) (hB 41 (by decide)) (hB 42 (by decide)) (hB 43 (by decide)) (hB 44 (by decide)) h.hm), (cg_ta (hN 10 (by decide)) (hL 1108 (by decide)) (hI 45 (by decide)) (hA 1000 (by decide)) (hA 1001 (by decide)) (hA 1003 (by decide)) (hA 1004 (by decide)) (hA 1005 (by decide)) (hA 1006 (by decide)) (hO 1002 (by decide)) (hN 2 (by decide)) (hO 203 (by decide)) (hN 5 (by decide)) (hL 1107 (by decide)) (hO 205 (by decide)) (hO 200 (by decide)) (hO 201 (by decide)) (hA 202 (by decide)) (hN 7 (by decide)) (hL 704 (by decide)) (hB 46 (by decide)) (hB 47 (by decide)) (hB 48 (by decide)) (hB 49 (by decide)) (hB 50 (by decide)) (hB 51 (by decide)) (hB 52 (by decide)) (hB 54 (by decide)) h.ta), (cg_ap (hC 4 (by decide)) (hN 10 (by decide)) (hA 1005 (by decide)) (hA 1001 (by decide)) (hA 1003 (by decide)) (hA 1004 (by decide)) (hO 501 (by decide)) (hO 203 (by decide)) (hO 1002 (by decide)) (hO 902 (by decide)) h.ap), (cg_ro (hA 801 (by decide)) (hA 802 (by decide)) (hL 800 (by decide)) (hA 1005 (by decide)) (hN 10 (by decide)) (hB 53 (by decide)) (hB 55 (by decide)) (hB 56 (by decide)) (hB 58 (by decide)) (hB 59 (by decide)) h.ro), (cg_st (hN 7 (by decide)) (hA 705 (by decide)) (hN 5 (by decide)) (hC 0 (by decide)) (hL 704 (by decide)) (hA 403 (by decide)) h.st), (cg_bx (hN 7 (by decide)) (hA 705 (by decide)) (hA 706 (by decide)) (hC 1112 (by decide)) (hA 302 (by decide)) (hA 303 (by decide)) (hA 304 (by decide)) (hO 501 (by decide)) (hN 5 (by decide)) (hB 34 (by decide)) (hB 35 (by decide)) h.bx)⟩
theorem Rel.nowA (h : Rel B k S w) (x : Int32) : Rel B k (pA 1116 0 x S) (mSI 1 x w) := by
  have hA : ∀ f, f ≠ 1116 → zA (pA 1116 0 x S) f = zA S f := fun f hf => fAA hf
  have hO : ∀ f, True → zO (pA 1116 0 x S) f = zO S f := fun f _ => rfl
  have hL : ∀ f, True → zL (pA 1116 0 x S) f = zL S f := fun f _ => rfl
  have hC : ∀ f, True → zC (pA 1116 0 x S) f = zC S f := fun f _ => rfl
  have hN : ∀ f, True → zN (pA 1116 0 x S) f = zN S f := fun f _ => rfl
  have hM : zM (pA 1116 0 x S) = zM S := rfl
  have hI : ∀ f, f ≠ 1 → mI (mSI 1 x w) f = mI w f := fun f hf => fII hf
  have hB : ∀ f, True → mA (mSI 1 x w) f = mA w f := fun f _ => rfl
  have sc : g_sc (pA 1116 0 x S) (mSI 1 x w) := by
    obtain ⟨a1, a2, a3⟩ := h.sc
    unfold g_sc
    rw [hA 1117 (by decide), hA 1118 (by decide), hI 3 (by decide), hI 2 (by decide), sII, sAA, if_pos rfl]
    exact ⟨rfl, a2, a3⟩
  exact ⟨(cg_sl (hA 900 (by decide)) (hA 901 (by decide)) (hA 903 (by decide)) (hA 904 (by decide)) (hO 902 (by decide)) (hB 4 (by decide)) (hB 5 (by decide)) (hB 6 (by decide)) (hB 7 (by decide)) (hB 8 (by decide)) h.sl), (cg_it (hA 300 (by decide)) (hA 301 (by decide)) (hA 302 (by decide)) (hA 303 (by decide)) (hA 304 (by decide)) (hA 305 (by decide)) (hB 9 (by decide)) (hB 10 (by decide)) (hB 11 (by decide)) (hB 12 (by decide)) (hB 13 (by decide)) h.it), (cg_ba (hA 1115 (by decide)) (hB 14 (by decide)) h.ba), sc, (cg_lo (hN 5 (by decide)) (hL 1103 (by decide)) (hA 500 (by decide)) (hA 502 (by decide)) (hA 503 (by decide)) (hO 501 (by decide)) (hI 15 (by decide)) (hB 16 (by decide)) (hB 17 (by decide)) (hB 18 (by decide)) h.lo), (cg_be (hL 1104 (by decide)) (hN 5 (by decide)) (hA 502 (by decide)) h.be), (cg_no (hN 6 (by decide)) (hL 1105 (by decide)) (hO 600 (by decide)) (hA 601 (by decide)) (hA 602 (by decide)) (hI 22 (by decide)) (hB 23 (by decide)) (hB 24 (by decide)) (hB 25 (by decide)) h.no), (cg_ca (hC 1110 (by decide)) (hB 26 (by decide)) h.ca), (cg_aw (hC 1111 (by decide)) (hN 7 (by decide)) (hA 705 (by decide)) (hB 33 (by decide)) h.aw), (cg_or (hN 7 (by decide)) (hN 72 (by decide)) (hL 1106 (by decide)) (hA 700 (by decide)) (hA 701 (by decide)) (hA 702 (by decide)) (hA 703 (by decide)) (hA 705 (by decide)) (hI 27 (by decide)) (hB 28 (by decide)) (hB 29 (by decide)) (hB 30 (by decide)) (hB 31 (by decide)) (hB 32 (by decide)) h.or), (cg_li (hN 7 (by decide)) (hL 704 (by decide)) (hN 4 (by decide)) (hO 400 (by decide)) (hA 401 (by decide)) (hA 402 (by decide)) (hA 403 (by decide)) (hB 31 (by decide)) (hB 36 (by decide)) (hB 37 (by decide)) (hB 38 (by decide)) h.li), (cg_bk (hC 0 (by decide)) (hC 1 (by decide)) (hN 5 (by decide)) (hO 501 (by decide)) (hB 19 (by decide)) h.bk), (cg_nn (hC 0 (by decide)) (hC 2 (by decide)) h.nn), (cg_tr (hC 2 (by decide)) (hC 0 (by decide)) (hB 20 (by decide)) h.tr), (cg_db (hC 5 (by decide)) (hB 21 (by decide)) h.db), (cg_mv (hA 7 (by decide)) (hN 60 (by decide)) hM (hC 0 (by decide)) h.mv), (cg_ho (hL 1107 (by decide)) (hN 2 (by decide)) (hA 204 (by decide)) (hN 5 (by decide)) (hO 203 (by decide)) (hA 202 (by decide)) (hO 200 (by decide)) (hO 201 (by decide)) (hO 205 (by decide)) (hN 7 (by decide)) (hL 704 (by decide)) (hA 705 (by decide)) (hN 10 (by decide)) (hO 1002 (by decide)) (hA 1005 (by decide)) (hA 1004 (by decide)) h.ho), (cg_hs (hC 3 (by decide)) (hL 1107 (by decide)) (hA 202 (by decide)) (hO 203 (by decide)) (hA 204 (by decide)) (hC 0 (by decide)) (hN 4 (by decide)) (hA 402 (by decide)) (hO 201 (by decide)) h.hs), (cg_hm (hI 39 (by decide)) (hL 1107 (by decide)) (hO 200 (by decide)) (hO 201 (by decide)) (hO 203 (by decide)) (hL 704 (by decide)) (hA 202 (by decide)) (hA 204 (by decide)) (hO 205 (by decide)) (hB 40 (by decide)) (hB 41 (by decide)) (hB 42 (by decide)) (hB 43 (by decide)) (hB 44 (by decide)) h.hm), (cg_ta (hN 10 (by decide)) (hL 1108 (by decide)) (hI 45 (by decide)) (hA 1000 (by decide)) (hA 1001 (by decide)) (hA 1003 (by decide)) (hA 1004 (by decide)) (hA 1005 (by decide)) (hA 1006 (by decide)) (hO 1002 (by decide)) (hN 2 (by decide)) (hO 203 (by decide)) (hN 5 (by decide)) (hL 1107 (by decide)) (hO 205 (by decide)) (hO 200 (by decide)) (hO 201 (by decide)) (hA 202 (by decide)) (hN 7 (by decide)) (hL 704 (by decide)) (hB 46 (by decide)) (hB 47 (by decide)) (hB 48 (by decide)) (hB 49 (by decide)) (hB 50 (by decide)) (hB 51 (by decide)) (hB 52 (by decide)) (hB 54 (by decide)) h.ta), (cg_ap (hC 4 (by decide)) (hN 10 (by decide)) (hA 1005 (by decide)) (hA 1001 (by decide)) (hA 1003 (by decide)) (hA 1004 (by decide)) (hO 501 (by decide)) (hO 203 (by decide)) (hO 1002 (by decide)) (hO 902 (by decide)) h.ap), (cg_ro (hA 801 (by decide)) (hA 802 (by decide)) (hL 800 (by decide)) (hA 1005 (by decide)) (hN 10 (by decide)) (hB 53 (by decide)) (hB 55 (by decide)) (hB 56 (by decide)) (hB 58 (by decide)) (hB 59 (by decide)) h.ro), (cg_st (hN 7 (by decide)) (hA 705 (by decide)) (hN 5 (by decide)) (hC 0 (by decide)) (hL 704 (by decide)) (hA 403 (by decide)) h.st), (cg_bx (hN 7 (by decide)) (hA 705 (by decide)) (hA 706 (by decide)) (hC 1112 (by decide)) (hA 302 (by decide)) (hA 303 (by decide)) (hA 304 (by decide)) (hO 501 (by decide)) (hN 5 (by decide)) (hB 34 (by decide)) (hB 35 (by decide)) h.bx)⟩
/-- what a tick's end does -/
def udS (S : Ss) (r : Nat) : Ss := pA 1117 0 (zA S 1117 0 + 1) (pA 802 r 0 (pA 801 r (-1) S))
def udV (S : Ss) (w : MS) (r : Nat) : MS := mSI 3 (zA S 1117 0 + 1) (mSA 55 r (-1) w)
theorem Rel.undo (h : Rel B k S w) (hw : ∀ r, r < 3 → mA w 57 r = zA S 803 r) : ∃ T v, (f_X11_undoStandstill).1 S = some ((), T) ∧ g_X12_ticks_32 FU (-1) 0 w = some ((), v) ∧ ((T = S ∧ v = w) ∨ ∃ r, r < 3 ∧ T = udS S r ∧ v = udV S w r) := by
  obtain ⟨F, hF⟩ : ∃ F, FU = F + 1 + 1 + 1 + 1 := ⟨FU - 4, by have := FU_gt (n := 9) (by decide); omega⟩
  have e1 : ∀ r, r < 3 → (f_X11_isInRing r).1 S = some (bI (rg S r 3 (some r)), S) := fun r hr => h.eRing r 3 0 r rfl hr FU (FU_gt (by decide))
  have k1 : ∀ r, r < 3 → g_X12_isInRing (nI r) w = some (bI (rg S r 3 (some r)), w) := fun r hr => h.kRing hw hr 3 0 (some r) rfl (fun z q => by cases q; exact hr) FU (FU_gt (by decide))
  have c0 := e1 0 (by decide)
  have c1 := e1 1 (by decide)
  have c2 := e1 2 (by decide)
  have d0 : g_X12_isInRing 0 w = _ := k1 0 (by decide)
  have d1 : g_X12_isInRing 1 w = _ := k1 1 (by decide)
  have d2 : g_X12_isInRing 2 w = _ := k1 2 (by decide)
  have ud : (f_X11_undoStandstill).1 S = (f_X11_undoStandstill_8 (F + 1 + 1 + 1 + 1) 2).1 S := by rw [← hF]; rfl
  have m1 : mI w 3 = zA S 1117 0 := h.sc.2.2
  have x2 : (2 : Int32).toNatClampNeg = 2 := by decide
  have x1 : (1 : Int32).toNatClampNeg = 1 := by decide
  have x0 : (0 : Int32).toNatClampNeg = 0 := by decide
  have y2 : ∀ {R : Type} (K : MM R), mix (2 : Int32) (aLn 1102) K = K := fun K => r_mnI (p := 2) (n := aLn 1102) (by decide) (by decide) K
  have y1 : ∀ {R : Type} (K : MM R), mix (1 : Int32) (aLn 1102) K = K := fun K => r_mnI (p := 1) (n := aLn 1102) (by decide) (by decide) K
  have y0 : ∀ {R : Type} (K : MM R), mix (0 : Int32) (aLn 1102) K = K := fun K => r_mnI (p := 0) (n := aLn 1102) (by decide) (by decide) K
  have g2 : ∀ {R : Type} (K : GM R), gix (2 : Int32) (mL 55) K = K := fun K => r_gnI (p := 2) (n := mL 55) (by decide) (by decide) K
  have g1 : ∀ {R : Type} (K : GM R), gix (1 : Int32) (mL 55) K = K := fun K => r_gnI (p := 1) (n := mL 55) (by decide) (by decide) K
  have g0 : ∀ {R : Type} (K : GM R), gix (0 : Int32) (mL 55) K = K := fun K => r_gnI (p := 0) (n := mL 55) (by decide) (by decide) K
  have fr : ∀ r, (f_X8_goToFront r).1 S = some ((), pA 802 r 0 (pA 801 r (-1) S)) := fun r => rfl
  have a1117 : ∀ r, zA (pA 802 r 0 (pA 801 r (-1) S)) 1117 0 = zA S 1117 0 := fun r => by rw [fAA (by decide), fAA (by decide)]
  have s2 : (2 : Int32) + -1 = 1 := by decide
  have s1 : (1 : Int32) + -1 = 0 := by decide
  have s0 : (0 : Int32) + -1 = -1 := by decide
  have p0 : (0 : Int32) + 1 = 1 := by decide
  have p1 : (1 : Int32) + 1 = 2 := by decide
  have p2 : (2 : Int32) + 1 = 3 := by decide
  have l2 : ¬ (2 : Int32) < 0 := by decide
  have l1 : ¬ (1 : Int32) < 0 := by decide
  have l0 : ¬ (0 : Int32) < 0 := by decide
  have lm : (-1 : Int32) < 0 := by decide
  have b0 : ¬ (3 : Int32) ≤ 0 := by decide
  have b1 : ¬ (3 : Int32) ≤ 1 := by decide
  have b2 : ¬ (3 : Int32) ≤ 2 := by decide
  have b3 : (3 : Int32) ≤ 3 := by decide
  have n2 : ¬ (2 : Int32) = -1 := by decide
  have n1 : ¬ (1 : Int32) = -1 := by decide
  have n0 : ¬ (0 : Int32) = -1 := by decide
  rw [ud, hF]
  cases r2 : rg S 2 3 (some 2) with
  | true =>
    rw [r2] at c2 d2
    refine ⟨udS S 2, udV S w 2, ?_, ?_, Or.inr ⟨2, by decide, rfl, rfl⟩⟩
    · simp only [f_X11_undoStandstill_8, r_mb, bnd_s, r_mrd, r_mbo, r_mret, r_mthr, r_wA, r_wO, r_madd, r_mput, r_mopt, r_mcn, r_mcs, ite_f, e_isWithin, e_isSlot, e_isItem, e_isGroup, e_isRobot, e_isLot, e_isNotice, e_isOrder, e_isTask, bI_t, bI_f, i10, i00, i01, i11, i20, i30, ↓reduceIte, l2, y2, x2, c2, fr, a1117]
      rfl
    · cases r0 : rg S 0 3 (some 0) <;> cases r1 : rg S 1 3 (some 1) <;> (rw [r0] at d0; rw [r1] at d1; simp only [g_X12_ticks_32, kif, r_gb, gbn_s, r_grd, r_gbo, r_gret, r_gst, k_isIn, k_isSlot, k_isItem, k_isGroup, k_isRobot, k_are, k_holds0, k_holds1, k_holds2, k_holds3, k_bit, k_less, bI_t, bI_f, i10, i00, i01, i11, i20, i30, ↓reduceIte, b0, b1, b2, b3, d0, d1, d2, p0, p1, p2, n2, g2, x2, mI_mSA, m1]; rfl)
  | false =>
    rw [r2] at c2 d2
    cases r1 : rg S 1 3 (some 1) with
    | true =>
      rw [r1] at c1 d1
      refine ⟨udS S 1, udV S w 1, ?_, ?_, Or.inr ⟨1, by decide, rfl, rfl⟩⟩
      · simp only [f_X11_undoStandstill_8, r_mb, bnd_s, r_mrd, r_mbo, r_mret, r_mthr, r_wA, r_wO, r_madd, r_mput, r_mopt, r_mcn, r_mcs, ite_f, e_isWithin, e_isSlot, e_isItem, e_isGroup, e_isRobot, e_isLot, e_isNotice, e_isOrder, e_isTask, bI_t, bI_f, i10, i00, i01, i11, i20, i30, ↓reduceIte, l2, y2, x2, c2, s2, l1, y1, x1, c1, fr, a1117]
        rfl
      · cases r0 : rg S 0 3 (some 0) <;> (rw [r0] at d0; simp only [g_X12_ticks_32, kif, r_gb, gbn_s, r_grd, r_gbo, r_gret, r_gst, k_isIn, k_isSlot, k_isItem, k_isGroup, k_isRobot, k_are, k_holds0, k_holds1, k_holds2, k_holds3, k_bit, k_less, bI_t, bI_f, i10, i00, i01, i11, i20, i30, ↓reduceIte, b0, b1, b2, b3, d0, d1, d2, p0, p1, p2, n1, g1, x1, mI_mSA, m1]; rfl)
    | false =>
      rw [r1] at c1 d1
      cases r0 : rg S 0 3 (some 0) with
      | true =>
        rw [r0] at c0 d0
        refine ⟨udS S 0, udV S w 0, ?_, ?_, Or.inr ⟨0, by decide, rfl, rfl⟩⟩
        · simp only [f_X11_undoStandstill_8, r_mb, bnd_s, r_mrd, r_mbo, r_mret, r_mthr, r_wA, r_wO, r_madd, r_mput, r_mopt, r_mcn, r_mcs, ite_f, e_isWithin, e_isSlot, e_isItem, e_isGroup, e_isRobot, e_isLot, e_isNotice, e_isOrder, e_isTask, bI_t, bI_f, i10, i00, i01, i11, i20, i30, ↓reduceIte, l2, y2, x2, c2, s2, l1, y1, x1, c1, s1, l0, y0, x0, c0, fr, a1117]
          rfl
        · simp only [g_X12_ticks_32, kif, r_gb, gbn_s, r_grd, r_gbo, r_gret, r_gst, k_isIn, k_isSlot, k_isItem, k_isGroup, k_isRobot, k_are, k_holds0, k_holds1, k_holds2, k_holds3, k_bit, k_less, bI_t, bI_f, i10, i00, i01, i11, i20, i30, ↓reduceIte, b0, b1, b2, b3, d0, d1, d2, p0, p1, p2, n0, g0, x0, mI_mSA, m1]
          rfl
      | false =>
        rw [r0] at c0 d0
        refine ⟨S, w, ?_, ?_, Or.inl ⟨rfl, rfl⟩⟩
        · simp only [f_X11_undoStandstill_8, r_mb, bnd_s, r_mrd, r_mbo, r_mret, r_mthr, r_wA, r_wO, r_madd, r_mput, r_mopt, r_mcn, r_mcs, ite_f, e_isWithin, e_isSlot, e_isItem, e_isGroup, e_isRobot, e_isLot, e_isNotice, e_isOrder, e_isTask, bI_t, bI_f, i10, i00, i01, i11, i20, i30, ↓reduceIte, l2, y2, x2, c2, s2, l1, y1, x1, c1, s1, l0, y0, x0, c0, s0, lm]
        · simp only [g_X12_ticks_32, kif, r_gb, gbn_s, r_grd, r_gbo, r_gret, r_gst, k_isIn, k_isSlot, k_isItem, k_isGroup, k_isRobot, k_are, k_holds0, k_holds1, k_holds2, k_holds3, k_bit, k_less, bI_t, bI_f, i10, i00, i01, i11, i20, i30, ↓reduceIte, b0, b1, b2, b3, d0, d1, d2, p0, p1, p2]
theorem Rel.udR (h : Rel B k S w) (r : Nat) : Rel B k (udS S r) (udV S w r) := (h.front r).stc _
end
