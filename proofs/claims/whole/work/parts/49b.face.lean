section
variable {m : Nat} {S T : Ss} {w v : MS}
def fcan (S : Ss) (s : Nat) (o : Option Nat) : Prop := emp S s ∧ ∀ i, o = some i → zA S 301 i = zA S 900 s
theorem Rel.kFace65 {B k : Nat} (h : Rel B k S w) {s : Nat} (hs : s < 18) {o : Option Nat} (ho : ∀ i, o = some i → i < 6) (x y : Int32) : ∃ c : Int32, (c = 0 ∨ c = 1) ∧ (c = 1 ↔ fcan S s o) ∧ ∀ r, g_X12_face_65 (nI s) (fcI o) x y 1 r w = g_X12_face_105 (nI s) (fcI o) x y 1 r c w := by
  obtain ⟨b1, b2, b3, b4, b5, b6, b7, b8, b9⟩ := h.sl s hs
  by_cases qe : emp S s
  · cases o with
    | none =>
      refine ⟨1, Or.inr rfl, ⟨fun _ => ⟨qe, fun i hi => by cases hi⟩, fun _ => rfl⟩, fun r => ?_⟩
      simp only [g_X12_face_65, kif, r_gb, gbn_s, r_grd, r_gbo, r_gret, r_gst, k_isIn, k_isSlot, k_isItem, k_isGroup, k_isRobot, k_are, k_holds0, k_holds1, k_holds2, k_holds3, k_bit, k_less, bI_t, bI_f, i10, i00, i01, i11, i20, i30, ↓reduceIte, mI_mSA, mI_mSI, mA_mSI, mA_mSA, Nat.reduceEqDiff, reduceCtorEq, Nat.reduceEqDiff, false_and, true_and, and_true, (h.kEmpty hs).1 qe, show fcI none = (-1 : Int32) from rfl]
    | some i =>
      have hi := ho i rfl
      have hm1 := nI_m1 hi
      have c2 := (h.it i hi).2.1
      by_cases q : zA S 301 i = zA S 900 s
      · refine ⟨1, Or.inr rfl, ⟨fun _ => ⟨qe, fun j hj => by cases hj; exact q⟩, fun _ => rfl⟩, fun r => ?_⟩
        simp only [g_X12_face_65, kif, r_gb, gbn_s, r_grd, r_gbo, r_gret, r_gst, k_isIn, k_isSlot, k_isItem, k_isGroup, k_isRobot, k_are, k_holds0, k_holds1, k_holds2, k_holds3, k_bit, k_less, bI_t, bI_f, i10, i00, i01, i11, i20, i30, ↓reduceIte, mI_mSA, mI_mSI, mA_mSI, mA_mSA, Nat.reduceEqDiff, reduceCtorEq, Nat.reduceEqDiff, false_and, true_and, and_true, (h.kEmpty hs).1 qe, show fcI (some i) = nI i from rfl, hm1, r_gnI (show i < mL 9 from hi) (show mL 9 < 2 ^ 31 by decide), r_gnI (show s < mL 4 from hs) (show mL 4 < 2 ^ 31 by decide), nI_clamp (show s < 2 ^ 31 by omega), nI_clamp (show i < 2 ^ 31 by omega), b1, c2, q]
      · refine ⟨0, Or.inl rfl, ⟨fun r => absurd r (by decide), fun r => absurd (r.2 i rfl) q⟩, fun r => ?_⟩
        simp only [g_X12_face_65, g_X12_face_104, kif, r_gb, gbn_s, r_grd, r_gbo, r_gret, r_gst, k_isIn, k_isSlot, k_isItem, k_isGroup, k_isRobot, k_are, k_holds0, k_holds1, k_holds2, k_holds3, k_bit, k_less, bI_t, bI_f, i10, i00, i01, i11, i20, i30, ↓reduceIte, mI_mSA, mI_mSI, mA_mSI, mA_mSA, Nat.reduceEqDiff, reduceCtorEq, Nat.reduceEqDiff, false_and, true_and, and_true, (h.kEmpty hs).1 qe, show fcI (some i) = nI i from rfl, hm1, r_gnI (show i < mL 9 from hi) (show mL 9 < 2 ^ 31 by decide), r_gnI (show s < mL 4 from hs) (show mL 4 < 2 ^ 31 by decide), nI_clamp (show s < 2 ^ 31 by omega), nI_clamp (show i < 2 ^ 31 by omega), b1, c2, q]
  · refine ⟨0, Or.inl rfl, ⟨fun r => absurd r (by decide), fun r => absurd r.1 qe⟩, fun r => ?_⟩
    simp only [g_X12_face_65, g_X12_face_104, kif, r_gb, gbn_s, r_grd, r_gbo, r_gret, r_gst, k_isIn, k_isSlot, k_isItem, k_isGroup, k_isRobot, k_are, k_holds0, k_holds1, k_holds2, k_holds3, k_bit, k_less, bI_t, bI_f, i10, i00, i01, i11, i20, i30, ↓reduceIte, mI_mSA, mI_mSI, mA_mSI, mA_mSA, Nat.reduceEqDiff, reduceCtorEq, Nat.reduceEqDiff, false_and, true_and, and_true, (h.kEmpty hs).2 qe]
theorem Rel.eFace86 {B k : Nat} (h : Rel B k S w) {s : Nat} (hs : s < 18) {o : Option Nat} (ho : ∀ i, o = some i → i < 6) (x y : Int32) : (fcan S s o → (f_X11_face_86 (nI s) x y o).1 S = some ((0, 0), fT S s o x y)) ∧ (¬ fcan S s o → (f_X11_face_86 (nI s) x y o).1 S = some ((3, 0), thS S)) := by
  have e126 : ∀ o, (f_X11_face_126 (nI s) x y o).1 S = some ((0, 0), fT S s o x y) := fun o => by
    simp only [f_X11_face_126, r_mb, bnd_s, r_mrd, r_mbo, r_mret, r_mthr, r_wA, r_wO, r_madd, r_mput, r_mopt, r_mcn, r_mcs, ite_f, e_isWithin, e_isSlot, e_isItem, e_isGroup, e_isRobot, e_isLot, e_isNotice, e_isOrder, e_isTask, bI_t, bI_f, i10, i00, i01, i11, i20, i30, ↓reduceIte, r_mnI (show s < aLn 1100 from hs) (show aLn 1100 < 2 ^ 31 by decide), nI_clamp (show s < 2 ^ 31 by omega)]; rfl
  by_cases qe : emp S s
  · cases o with
    | none =>
      refine ⟨fun _ => ?_, fun r => absurd ⟨qe, fun i hi => by cases hi⟩ r⟩
      simp only [f_X11_face_86, r_mb, bnd_s, r_mrd, r_mbo, r_mret, r_mthr, r_wA, r_wO, r_madd, r_mput, r_mopt, r_mcn, r_mcs, ite_f, e_isWithin, e_isSlot, e_isItem, e_isGroup, e_isRobot, e_isLot, e_isNotice, e_isOrder, e_isTask, bI_t, bI_f, i10, i00, i01, i11, i20, i30, ↓reduceIte, (h.eUsed hs).1 qe, e126]
    | some i =>
      by_cases q : zA S 301 i = zA S 900 s
      · refine ⟨fun _ => ?_, fun r => absurd ⟨qe, fun j hj => by cases hj; exact q⟩ r⟩
        simp only [f_X11_face_86, r_mb, bnd_s, r_mrd, r_mbo, r_mret, r_mthr, r_wA, r_wO, r_madd, r_mput, r_mopt, r_mcn, r_mcs, ite_f, e_isWithin, e_isSlot, e_isItem, e_isGroup, e_isRobot, e_isLot, e_isNotice, e_isOrder, e_isTask, bI_t, bI_f, i10, i00, i01, i11, i20, i30, ↓reduceIte, (h.eUsed hs).1 qe, r_mnI (show s < aLn 1100 from hs) (show aLn 1100 < 2 ^ 31 by decide), nI_clamp (show s < 2 ^ 31 by omega), q, e126]
      · refine ⟨fun r => absurd (r.2 i rfl) q, fun _ => ?_⟩
        simp only [f_X11_face_86, r_mb, bnd_s, r_mrd, r_mbo, r_mret, r_mthr, r_wA, r_wO, r_madd, r_mput, r_mopt, r_mcn, r_mcs, ite_f, e_isWithin, e_isSlot, e_isItem, e_isGroup, e_isRobot, e_isLot, e_isNotice, e_isOrder, e_isTask, bI_t, bI_f, i10, i00, i01, i11, i20, i30, ↓reduceIte, (h.eUsed hs).1 qe, r_mnI (show s < aLn 1100 from hs) (show aLn 1100 < 2 ^ 31 by decide), nI_clamp (show s < 2 ^ 31 by omega), q]; rfl
  · refine ⟨fun r => absurd r.1 qe, fun _ => ?_⟩
    simp only [f_X11_face_86, r_mb, bnd_s, r_mrd, r_mbo, r_mret, r_mthr, r_wA, r_wO, r_madd, r_mput, r_mopt, r_mcn, r_mcs, ite_f, e_isWithin, e_isSlot, e_isItem, e_isGroup, e_isRobot, e_isLot, e_isNotice, e_isOrder, e_isTask, bI_t, bI_f, i10, i00, i01, i11, i20, i30, ↓reduceIte, (h.eUsed hs).2 qe]; rfl
theorem e_face38 {s : Nat} {o : Option Nat} (ho : ∀ i, o = some i → i < 6) (x y c : Int32) : (f_X11_face_38 (nI s) (fcI o) x y c).1 S = if inI x 0 c = true then (if inI y x c = true then (f_X11_face_86 (nI s) x y o).1 S else some ((2, 0), thS S)) else some ((2, 0), thS S) := by
  cases h1 : inI x 0 c with
  | false => simp only [f_X11_face_38, r_mb, bnd_s, r_mrd, r_mbo, r_mret, r_mthr, r_wA, r_wO, r_madd, r_mput, r_mopt, r_mcn, r_mcs, ite_f, e_isWithin, e_isSlot, e_isItem, e_isGroup, e_isRobot, e_isLot, e_isNotice, e_isOrder, e_isTask, bI_t, bI_f, i10, i00, i01, i11, i20, i30, ↓reduceIte, h1, Bool.false_eq_true]; try rfl
  | true =>
    cases h2 : inI y x c with
    | false => simp only [f_X11_face_38, r_mb, bnd_s, r_mrd, r_mbo, r_mret, r_mthr, r_wA, r_wO, r_madd, r_mput, r_mopt, r_mcn, r_mcs, ite_f, e_isWithin, e_isSlot, e_isItem, e_isGroup, e_isRobot, e_isLot, e_isNotice, e_isOrder, e_isTask, bI_t, bI_f, i10, i00, i01, i11, i20, i30, ↓reduceIte, h1, h2, Bool.false_eq_true]; try rfl
    | true =>
      cases o with
      | none => simp only [f_X11_face_38, r_mb, bnd_s, r_mrd, r_mbo, r_mret, r_mthr, r_wA, r_wO, r_madd, r_mput, r_mopt, r_mcn, r_mcs, ite_f, e_isWithin, e_isSlot, e_isItem, e_isGroup, e_isRobot, e_isLot, e_isNotice, e_isOrder, e_isTask, bI_t, bI_f, i10, i00, i01, i11, i20, i30, ↓reduceIte, h1, h2, show fcI none = (-1 : Int32) from rfl, show okI (-1) 6 = false by decide]
      | some i =>
        have hi := ho i rfl
        simp only [f_X11_face_38, r_mb, bnd_s, r_mrd, r_mbo, r_mret, r_mthr, r_wA, r_wO, r_madd, r_mput, r_mopt, r_mcn, r_mcs, ite_f, e_isWithin, e_isSlot, e_isItem, e_isGroup, e_isRobot, e_isLot, e_isNotice, e_isOrder, e_isTask, bI_t, bI_f, i10, i00, i01, i11, i20, i30, ↓reduceIte, h1, h2, show fcI (some i) = nI i from rfl, okI_n hi (show 6 < 2 ^ 31 by decide), r_mnI (show i < aLn 1101 from hi) (show aLn 1101 < 2 ^ 31 by decide), nI_clamp (show i < 2 ^ 31 by omega)]
theorem s_face1 (g : GG m S w) (hm : m < 512) {s : Nat} (hs : s < 18) {o : Option Nat} (ho : ∀ i, o = some i → i < 6) {x y c : Int32} (hc : tI c 0 99) : STv GG m S w (f_X11_face_38 (nI s) (fcI o) x y c) (g_X12_face_37 (nI s) (fcI o) x y 1 c) [(1, 1), (2, 2), (3, 3)] := by
  obtain ⟨-, -, -, B, k, hB, -, h⟩ := id g
  obtain ⟨r, r1, r2, r3⟩ := h.kFace65 hs ho x y
  obtain ⟨e1, e2⟩ := h.eFace86 hs ho x y
  cases h1 : inI x 0 c with
  | false =>
    refine stv_th g hm (u := 2) (c := 2) ?_ ?_ (by simp) (by decide) (by decide)
    · rw [e_face38 ho, h1, if_neg (by decide)]
    · simp only [g_X12_face_37, g_X12_face_64, kif, r_gb, gbn_s, r_grd, r_gbo, r_gret, r_gst, k_isIn, k_isSlot, k_isItem, k_isGroup, k_isRobot, k_are, k_holds0, k_holds1, k_holds2, k_holds3, k_bit, k_less, bI_t, bI_f, i10, i00, i01, i11, i20, i30, ↓reduceIte, mI_mSA, mI_mSI, mA_mSI, mA_mSA, Nat.reduceEqDiff, reduceCtorEq, Nat.reduceEqDiff, false_and, true_and, and_true, h1, r3, g_X12_face_105, g_X12_face_136]; try rfl
  | true =>
    cases h2 : inI y x c with
    | false =>
      refine stv_th g hm (u := 2) (c := 2) ?_ ?_ (by simp) (by decide) (by decide)
      · rw [e_face38 ho, h1, h2, if_pos rfl, if_neg (by decide)]
      · simp only [g_X12_face_37, g_X12_face_64, kif, r_gb, gbn_s, r_grd, r_gbo, r_gret, r_gst, k_isIn, k_isSlot, k_isItem, k_isGroup, k_isRobot, k_are, k_holds0, k_holds1, k_holds2, k_holds3, k_bit, k_less, bI_t, bI_f, i10, i00, i01, i11, i20, i30, ↓reduceIte, mI_mSA, mI_mSI, mA_mSI, mA_mSA, Nat.reduceEqDiff, reduceCtorEq, Nat.reduceEqDiff, false_and, true_and, and_true, h1, h2, r3, g_X12_face_105, g_X12_face_136]; try rfl
    | true =>
      by_cases q : fcan S s o
      · have hr := r2.mpr q
        have hx := inI_t h1
        have hy := inI_t h2
        have hc' := tI_of hc
        have e0 : (0 : Int32).toInt = 0 := rfl
        refine stv_st (T := fT S s o x y) (v := fcV (mSI 0 0 w) s o x y) (r := 0) ?_ ?_ ?_ rfl
        · exact g.st hm rfl rfl (fun t => fT_A (by decide)) (fun t => fT_A (by decide)) (fun t => fT_A (by decide)) fun B k hB hR => ⟨B, by omega, (hR.thr 0).face hs q.1 ho ⟨by omega, by omega⟩ ⟨by omega, by omega⟩⟩
        · rw [e_face38 ho, h1, h2, if_pos rfl, if_pos rfl, e1 q]
        · simp only [g_X12_face_37, kif, r_gb, gbn_s, r_grd, r_gbo, r_gret, r_gst, k_isIn, k_isSlot, k_isItem, k_isGroup, k_isRobot, k_are, k_holds0, k_holds1, k_holds2, k_holds3, k_bit, k_less, bI_t, bI_f, i10, i00, i01, i11, i20, i30, ↓reduceIte, mI_mSA, mI_mSI, mA_mSI, mA_mSA, Nat.reduceEqDiff, reduceCtorEq, Nat.reduceEqDiff, false_and, true_and, and_true, h1, h2, r3, g_X12_face_105, g_X12_face_136, hr, r_gnI (show s < mL 6 from hs) (show mL 6 < 2 ^ 31 by decide), r_gnI (show s < mL 7 from hs) (show mL 7 < 2 ^ 31 by decide), r_gnI (show s < mL 8 from hs) (show mL 8 < 2 ^ 31 by decide), nI_clamp (show s < 2 ^ 31 by omega)]; try rfl
      · have hr : r = 0 := by
          rcases r1 with r1 | r1
          · exact r1
          · exact absurd (r2.mp r1) q
        refine stv_th g hm (u := 3) (c := 3) ?_ ?_ (by simp) (by decide) (by decide)
        · rw [e_face38 ho, h1, h2, if_pos rfl, if_pos rfl, e2 q]
        · simp only [g_X12_face_37, kif, r_gb, gbn_s, r_grd, r_gbo, r_gret, r_gst, k_isIn, k_isSlot, k_isItem, k_isGroup, k_isRobot, k_are, k_holds0, k_holds1, k_holds2, k_holds3, k_bit, k_less, bI_t, bI_f, i10, i00, i01, i11, i20, i30, ↓reduceIte, mI_mSA, mI_mSI, mA_mSI, mA_mSA, Nat.reduceEqDiff, reduceCtorEq, Nat.reduceEqDiff, false_and, true_and, and_true, h1, h2, r3, g_X12_face_105, g_X12_face_136, hr]; try rfl
/-- the reference's road where slot or item is none: nothing is looked at but the bounds -/
theorem k_face24 (x1 x2 x3 x4 : Int32) : g_X12_face_24 x1 x2 x3 x4 0 w = some ((), mSI 0 1 w) := by
  have k65 : ∀ r, g_X12_face_65 x1 x2 x3 x4 0 r w = some ((), mSI 0 1 w) := fun r => by
    simp only [g_X12_face_65, g_X12_face_104, g_X12_face_105, g_X12_face_136, kif, r_gb, gbn_s, r_grd, r_gbo, r_gret, r_gst, k_isIn, k_isSlot, k_isItem, k_isGroup, k_isRobot, k_are, k_holds0, k_holds1, k_holds2, k_holds3, k_bit, k_less, bI_t, bI_f, i10, i00, i01, i11, i20, i30, ↓reduceIte, mI_mSA, mI_mSI, mA_mSI, mA_mSA, Nat.reduceEqDiff, reduceCtorEq, Nat.reduceEqDiff, false_and, true_and, and_true]
  have k37 : ∀ c, g_X12_face_37 x1 x2 x3 x4 0 c w = some ((), mSI 0 1 w) := fun c => by
    cases h1 : inI x3 0 c with
    | false => simp only [g_X12_face_37, g_X12_face_64, kif, r_gb, gbn_s, r_grd, r_gbo, r_gret, r_gst, k_isIn, k_isSlot, k_isItem, k_isGroup, k_isRobot, k_are, k_holds0, k_holds1, k_holds2, k_holds3, k_bit, k_less, bI_t, bI_f, i10, i00, i01, i11, i20, i30, ↓reduceIte, mI_mSA, mI_mSI, mA_mSI, mA_mSA, Nat.reduceEqDiff, reduceCtorEq, Nat.reduceEqDiff, false_and, true_and, and_true, h1, k65]
    | true => cases h2 : inI x4 x3 c <;> simp only [g_X12_face_37, g_X12_face_64, kif, r_gb, gbn_s, r_grd, r_gbo, r_gret, r_gst, k_isIn, k_isSlot, k_isItem, k_isGroup, k_isRobot, k_are, k_holds0, k_holds1, k_holds2, k_holds3, k_bit, k_less, bI_t, bI_f, i10, i00, i01, i11, i20, i30, ↓reduceIte, mI_mSA, mI_mSI, mA_mSI, mA_mSA, Nat.reduceEqDiff, reduceCtorEq, Nat.reduceEqDiff, false_and, true_and, and_true, h1, h2, k65]
  unfold g_X12_face_24
  split <;> exact k37 _
theorem s_face (g : GG m S w) (hm : m < 512) (x1 x2 x3 x4 : Int32) : STv GG m S w (f_X11_face x1 x2 x3 x4) (g_X12_face x1 x2 x3 x4) [(1, 1), (2, 2), (3, 3)] := by
  cases h1 : okI x1 18 with
  | false =>
    refine stv_th g hm (u := 1) (c := 1) ?_ ?_ (by simp) (by decide) (by decide)
    · simp only [f_X11_face, r_mb, bnd_s, r_mrd, r_mbo, r_mret, r_mthr, r_wA, r_wO, r_madd, r_mput, r_mopt, r_mcn, r_mcs, ite_f, e_isWithin, e_isSlot, e_isItem, e_isGroup, e_isRobot, e_isLot, e_isNotice, e_isOrder, e_isTask, bI_t, bI_f, i10, i00, i01, i11, i20, i30, ↓reduceIte, h1]; try rfl
    · simp only [g_X12_face, g_X12_face_23, kif, r_gb, gbn_s, r_grd, r_gbo, r_gret, r_gst, k_isIn, k_isSlot, k_isItem, k_isGroup, k_isRobot, k_are, k_holds0, k_holds1, k_holds2, k_holds3, k_bit, k_less, bI_t, bI_f, i10, i00, i01, i11, i20, i30, ↓reduceIte, h1, k_face24]
  | true =>
    obtain ⟨s, hs, rfl⟩ := okI_t (by decide) h1
    by_cases h2 : x2 = -1
    · subst h2
      refine STv.cg ?_ ?_ (s_face1 g hm hs (o := none) (x := x3) (y := x4) (c := 0) (fun i hi => by cases hi) ⟨by decide, by decide⟩)
      · simp only [f_X11_face, f_X11_face_27, r_mb, bnd_s, r_mrd, r_mbo, r_mret, r_mthr, r_wA, r_wO, r_madd, r_mput, r_mopt, r_mcn, r_mcs, ite_f, e_isWithin, e_isSlot, e_isItem, e_isGroup, e_isRobot, e_isLot, e_isNotice, e_isOrder, e_isTask, bI_t, bI_f, i10, i00, i01, i11, i20, i30, ↓reduceIte, h1, show fcI none = (-1 : Int32) from rfl]
      · simp only [g_X12_face, g_X12_face_24, kif, r_gb, gbn_s, r_grd, r_gbo, r_gret, r_gst, k_isIn, k_isSlot, k_isItem, k_isGroup, k_isRobot, k_are, k_holds0, k_holds1, k_holds2, k_holds3, k_bit, k_less, bI_t, bI_f, i10, i00, i01, i11, i20, i30, ↓reduceIte, h1, show fcI none = (-1 : Int32) from rfl]
    · cases h3 : okI x2 6 with
      | false =>
        refine stv_th g hm (u := 1) (c := 1) ?_ ?_ (by simp) (by decide) (by decide)
        · simp only [f_X11_face, r_mb, bnd_s, r_mrd, r_mbo, r_mret, r_mthr, r_wA, r_wO, r_madd, r_mput, r_mopt, r_mcn, r_mcs, ite_f, e_isWithin, e_isSlot, e_isItem, e_isGroup, e_isRobot, e_isLot, e_isNotice, e_isOrder, e_isTask, bI_t, bI_f, i10, i00, i01, i11, i20, i30, ↓reduceIte, h1, h2, h3]; try rfl
        · simp only [g_X12_face, g_X12_face_23, kif, r_gb, gbn_s, r_grd, r_gbo, r_gret, r_gst, k_isIn, k_isSlot, k_isItem, k_isGroup, k_isRobot, k_are, k_holds0, k_holds1, k_holds2, k_holds3, k_bit, k_less, bI_t, bI_f, i10, i00, i01, i11, i20, i30, ↓reduceIte, h1, h2, h3, k_face24]
      | true =>
        obtain ⟨i, hi, rfl⟩ := okI_t (by decide) h3
        refine STv.cg ?_ ?_ (s_face1 g hm hs (o := some i) (x := x3) (y := x4) (c := 99) (fun j hj => by cases hj; exact hi) ⟨by decide, by decide⟩)
        · simp only [f_X11_face, f_X11_face_27, r_mb, bnd_s, r_mrd, r_mbo, r_mret, r_mthr, r_wA, r_wO, r_madd, r_mput, r_mopt, r_mcn, r_mcs, ite_f, e_isWithin, e_isSlot, e_isItem, e_isGroup, e_isRobot, e_isLot, e_isNotice, e_isOrder, e_isTask, bI_t, bI_f, i10, i00, i01, i11, i20, i30, ↓reduceIte, h1, h2, h3, show fcI (some i) = nI i from rfl]
        · simp only [g_X12_face, g_X12_face_24, kif, r_gb, gbn_s, r_grd, r_gbo, r_gret, r_gst, k_isIn, k_isSlot, k_isItem, k_isGroup, k_isRobot, k_are, k_holds0, k_holds1, k_holds2, k_holds3, k_bit, k_less, bI_t, bI_f, i10, i00, i01, i11, i20, i30, ↓reduceIte, h1, h2, h3, show fcI (some i) = nI i from rfl]
end
