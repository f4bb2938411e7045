/-! holding in slots -/
theorem mn_comm (a b : Int32) : mn a b = mn b a := by
  apply Int32.toInt_inj.mp
  rw [mn_i, mn_i]
  split <;> split <;> omega
section
variable {B k : Nat} {S T U : Ss} {w v u : MS}
def fcS (S : Ss) (s : Nat) : Bool := (zO S 902 s).isSome
theorem e_lacking (j : Nat) : (f_X4_lacking j).1 S = some (zA S 401 j - zA S 402 j - zA S 403 j, S) := rfl
theorem Rel.k117 (h : Rel B k S w) {s l : Nat} (hs : s < 18) (hl : l < 12) (K33 : Int32 → Int32 → Int32 → Int32 → Int32 → Int32 → GM (Int32)) (K70 : Int32 → Int32 → Int32 → Int32 → Int32 → Int32 → Int32 → Int32 → GM (Int32)) (x1 x3 x4 x5 x6 x8 x9 xs : Int32) : g_X12_holdsFor_117 K33 K70 x1 x3 x4 x5 x6 (nI l) x8 x9 (nI s) xs xs w = if mn (zC S 0 (12 * s + l) - zC S 3 (12 * s + l)) (x5 - x6) ≤ 0 then K70 x1 x3 x4 x5 x6 (nI l) x8 (x9 + 1) w else K70 x1 x3 x4 x5 (x6 + mn (zC S 0 (12 * s + l) - zC S 3 (12 * s + l)) (x5 - x6)) (nI l) x8 (x9 + 1) (hdV w ((hL S).filter (hasO S)).length x3 (nI s) (nI l) (mn (zC S 0 (12 * s + l) - zC S 3 (12 * s + l)) (x5 - x6))) := by
  have hcnt := h.hcount
  have kf := h.kFree (p := s) (l := l) (by omega) hl
  obtain ⟨H, hH⟩ : ∃ H, H = ((hL S).filter (hasO S)).length := ⟨_, rfl⟩
  have e39 : mI w 39 = nI H := by rw [hH]; exact h.hm.1
  rw [← hH]
  rw [← hH] at hcnt
  generalize zC S 0 (12 * s + l) - zC S 3 (12 * s + l) = F at kf
  have cH := nI_clamp (show H < 2 ^ 31 by omega)
  have f1 : ∀ (y : Int32), mI (mSA 40 H y w) 39 = nI H := fun y => e39
  unfold g_X12_holdsFor_117
  rw [if_pos rfl, r_gb, kf, gbn_s, r_gb, k_less, mn_less, gbn_s, r_grd, kif]
  by_cases q : mn F (x5 - x6) ≤ 0
  · rw [if_pos q, if_pos q]
  · rw [if_neg q, if_neg q]
    simp only [r_grd, r_gst, r_gbo, e39, mI_mSA, cH, r_gnI (show H < mL 40 from show H < 2400 by omega) (show mL 40 < 2 ^ 31 by decide), r_gnI (show H < mL 41 from show H < 2400 by omega) (show mL 41 < 2 ^ 31 by decide), r_gnI (show H < mL 42 from show H < 2400 by omega) (show mL 42 < 2 ^ 31 by decide), r_gnI (show H < mL 43 from show H < 2400 by omega) (show mL 43 < 2 ^ 31 by decide), r_gnI (show H < mL 44 from show H < 2400 by omega) (show mL 44 < 2 ^ 31 by decide), nI_1]
    rfl
theorem Rel.k70 (h : Rel B k S w) {s l off : Nat} {b : Bool} (hs : s < 18) (hl : l < 12) (hb : (b = true ∧ off = 0) ∨ (b = false ∧ off = 18)) (K33 : Int32 → Int32 → Int32 → Int32 → Int32 → Int32 → GM (Int32)) (g : Nat) (x1 x3 x4 x5 x6 : Int32) : g_X12_holdsFor_70 K33 (g + 1) x1 x3 x4 x5 x6 (nI l) 1 (nI (s + off)) w = if fcS S s = b ∧ ¬ mn (zC S 0 (12 * s + l) - zC S 3 (12 * s + l)) (x5 - x6) ≤ 0 then g_X12_holdsFor_70 K33 g x1 x3 x4 x5 (x6 + mn (zC S 0 (12 * s + l) - zC S 3 (12 * s + l)) (x5 - x6)) (nI l) 1 (nI (s + 1 + off)) (hdV w ((hL S).filter (hasO S)).length x3 (nI s) (nI l) (mn (zC S 0 (12 * s + l) - zC S 3 (12 * s + l)) (x5 - x6))) else g_X12_holdsFor_70 K33 g x1 x3 x4 x5 x6 (nI l) 1 (nI (s + 1 + off)) w := by
  obtain ⟨-, -, s3, -, -, s6, -⟩ := h.sl s hs
  have ho : off ≤ 18 := by rcases hb with q | q <;> omega
  have h36 : ¬ (36 : Int32) ≤ nI (s + off) := nI_ge (b := 36) (by omega) (by decide)
  have i10' : ¬ (1 : Int32) = 0 := by decide
  have er : nI (s + off) - nI (s + off) / 18 * 18 = nI s := by
    have := pk_rem (a := s + off) (d := 18) (by omega) (by decide) (by decide)
    have e2 : (s + off) % 18 = s := by rcases hb with q | q <;> omega
    rw [e2] at this
    exact this
  have e1 : nI (s + off) + 1 = nI (s + 1 + off) := by rw [nI_1]; congr 1; omega
  have cs := nI_clamp (show s < 2 ^ 31 by omega)
  have fc := fcI_m1 fun i hi => Nat.lt_trans (s6 i hi) (by decide : 6 < 1000)
  have b6 : s < mL 6 := hs
  obtain ⟨xs0, hx0⟩ : ∃ xs0 : Int32, xs0 = if b = true then 1 else 0 := ⟨_, rfl⟩
  have st1 : g_X12_holdsFor_70 K33 (g + 1) x1 x3 x4 x5 x6 (nI l) 1 (nI (s + off)) w = g_X12_holdsFor_101 K33 (g_X12_holdsFor_70 K33 g) x1 x3 x4 x5 x6 (nI l) 1 (nI (s + off)) (nI s) xs0 w := by
    rcases hb with ⟨q1, q2⟩ | ⟨q1, q2⟩
    · subst q1; subst q2
      have h18 : ¬ (18 : Int32) ≤ nI (s + 0) := nI_ge (b := 18) (by omega) (by decide)
      rw [hx0, if_pos rfl]
      simp only [g_X12_holdsFor_70, kif, h36, i10', ↓reduceIte, r_gbo, er, h18]
    · subst q1; subst q2
      have h18 : (18 : Int32) ≤ nI (s + 18) := nI_le (a := 18) (by omega) (by omega)
      rw [hx0, if_neg (by decide)]
      simp only [g_X12_holdsFor_70, kif, h36, i10', ↓reduceIte, r_gbo, er, h18]
  have kk := h.k117 hs hl K33 (g_X12_holdsFor_70 K33 g) x1 x3 x4 x5 x6 1 (nI (s + off)) xs0
  rw [e1] at kk
  have st2 : fcS S s = b → g_X12_holdsFor_101 K33 (g_X12_holdsFor_70 K33 g) x1 x3 x4 x5 x6 (nI l) 1 (nI (s + off)) (nI s) xs0 w = g_X12_holdsFor_117 K33 (g_X12_holdsFor_70 K33 g) x1 x3 x4 x5 x6 (nI l) 1 (nI (s + off)) (nI s) xs0 xs0 w := fun q => by
    unfold g_X12_holdsFor_101
    rw [r_grd, r_gnI b6 (show mL 6 < 2 ^ 31 by decide), cs, kif, s3]
    unfold fcS at q
    cases ho : zO S 902 s with
    | none =>
      rw [ho] at q
      rw [if_pos (show fcI none = -1 from rfl)]
      have : xs0 = 0 := by rw [hx0, ← q]; rfl
      rw [this]
    | some i =>
      rw [ho] at q fc
      rw [if_neg (fun e => by have := fc.mp e; cases this)]
      have : xs0 = 1 := by rw [hx0, ← q]; rfl
      rw [this]
  have st3 : ¬ fcS S s = b → g_X12_holdsFor_101 K33 (g_X12_holdsFor_70 K33 g) x1 x3 x4 x5 x6 (nI l) 1 (nI (s + off)) (nI s) xs0 w = g_X12_holdsFor_70 K33 g x1 x3 x4 x5 x6 (nI l) 1 (nI (s + 1 + off)) w := fun q => by
    have n01 : ¬ (0 : Int32) = 1 := by decide
    unfold g_X12_holdsFor_101 g_X12_holdsFor_117
    rw [r_grd, r_gnI b6 (show mL 6 < 2 ^ 31 by decide), cs, kif, s3]
    unfold fcS at q
    cases ho : zO S 902 s with
    | none =>
      rw [ho] at q
      rw [if_pos (show fcI none = -1 from rfl)]
      have : b = true := by cases b; exact absurd rfl q; rfl
      have : xs0 = 1 := by rw [hx0, this]; rfl
      rw [this, if_neg i10', e1]
    | some i =>
      rw [ho] at q fc
      rw [if_neg (fun e => by have := fc.mp e; cases this)]
      have : b = false := by cases b; rfl; exact absurd rfl q
      have : xs0 = 0 := by rw [hx0, this]; rfl
      rw [this, if_neg n01, e1]
  rw [st1]
  by_cases q : fcS S s = b
  · rw [st2 q, kk]
    by_cases q2 : mn (zC S 0 (12 * s + l) - zC S 3 (12 * s + l)) (x5 - x6) ≤ 0
    · rw [if_pos q2, if_neg (fun r => r.2 q2)]
    · rw [if_neg q2, if_pos ⟨q, q2⟩]
  · rw [st3 q, if_neg (fun r => q r.1)]
theorem Rel.frI (h : Rel B k S w) {s l : Nat} (hs : s < 18) (hl : l < 12) : (zC S 0 (12 * s + l) - zC S 3 (12 * s + l)).toInt = fre S s l := by
  rw [h.subB (by omega) hl]; rfl
theorem Rel.k70s (h : Rel B k S w) {l off : Nat} {b : Bool} (hl : l < 12) (hb : (b = true ∧ off = 0) ∨ (b = false ∧ off = 18)) (K33 : Int32 → Int32 → Int32 → Int32 → Int32 → Int32 → GM (Int32)) (x1 x3 x4 x5 x6 : Int32) (h0 : (x5 - x6).toInt = 0) : ∀ d s, s + d = 18 → ∀ g, g_X12_holdsFor_70 K33 (g + d) x1 x3 x4 x5 x6 (nI l) 1 (nI (s + off)) w = g_X12_holdsFor_70 K33 g x1 x3 x4 x5 x6 (nI l) 1 (nI (18 + off)) w
  | 0, s, hsd, g => by
    have e : s = 18 := by omega
    subst e
    rfl
  | d + 1, s, hsd, g => by
    have hs : s < 18 := by omega
    have z : mn (zC S 0 (12 * s + l) - zC S 3 (12 * s + l)) (x5 - x6) ≤ 0 := by
      have f0 := (h.frB0 hs hl).1
      rw [Int32.le_iff_toInt_le, mn_i, h.frI hs hl, h0]
      have e0 : (0 : Int32).toInt = 0 := rfl
      rw [e0]; split <;> omega
    have e := h.k70 (s := s) hs hl hb K33 (g + d) x1 x3 x4 x5 x6
    rw [if_neg (fun r => r.2 z)] at e
    rw [show g + (d + 1) = g + d + 1 by omega, e]
    exact h.k70s hl hb K33 x1 x3 x4 x5 x6 h0 d (s + 1) (by omega) g
end
theorem slotsL {B k o p j l off H0 : Nat} {b : Bool} (hb : (b = true ∧ off = 0) ∨ (b = false ∧ off = 18)) (x1 x3 x4 x5 : Int32) : ∀ d s, s + d = 18 → ∀ (S : Ss) (w : MS) (x6 : Int32), Rel B k S w → o < zN S 7 → (zL S 704 o)[p]? = some j → zA S 705 o = 0 → l < zN S 5 → x3 = nI (lqS S o j) → (x5 - x6).toInt = lk S j → H0 ≤ ((hL S).filter (hasO S)).length → ∃ T v x6', (∀ f, d < f → (f_X11_holdInSlots_3 f o j l (bI b) (nI s)).1 S = some ((), T)) ∧ (∀ (K33 : Int32 → Int32 → Int32 → Int32 → Int32 → Int32 → GM (Int32)) (g : Nat), g_X12_holdsFor_70 K33 (g + d) x1 x3 x4 x5 x6 (nI l) 1 (nI (s + off)) w = g_X12_holdsFor_70 K33 g x1 x3 x4 x5 x6' (nI l) 1 (nI (18 + off)) v) ∧ Rel B k T v ∧ (x5 - x6').toInt = lk T j ∧ AQ S T ∧ AV H0 w v ∧ AL S T ∧ LPj S T j (fun q => q = l) ∧ H0 ≤ ((hL T).filter (hasO T)).length ∧ (lk T j = 0 ∨ ∀ s', s ≤ s' → s' < 18 → fcS S s' = b → fre T s' l = 0)
  | 0, s, hsd, S, w, x6, h, o7, hp, h705, hl, h3, hx, hH => by
    have e : s = 18 := by omega
    subst e
    refine ⟨S, w, x6, fun f hf => ?_, fun _ g => rfl, h, hx, AQ.rf S, AV.rf H0 w, AL.rf S, LPj.rf S j _, hH, Or.inr fun s' h1 h2 => absurd h2 (by omega)⟩
    obtain ⟨f, rfl⟩ : ∃ f', f = f' + 1 := ⟨f - 1, by omega⟩
    simp only [f_X11_holdInSlots_3, r_mb, bnd_s, r_mrd, r_mbo, r_mret, r_mthr, r_wA, r_wO, r_madd, r_mput, r_mopt, r_mcn, r_mcs, ite_f, e_isWithin, e_isSlot, e_isItem, e_isGroup, e_isRobot, e_isLot, e_isNotice, e_isOrder, e_isTask, bI_t, bI_f, i10, i00, i01, i11, i20, i30, ↓reduceIte, show nI (aLn 1100) ≤ nI 18 by decide]
  | d + 1, s, hsd, S, w, x6, h, o7, hp, h705, hl, h3, hx, hH => by
    have hs : s < 18 := by omega
    have h12 := h.lo.1
    have hl12 : l < 12 := by omega
    have h18 : ¬ nI (aLn 1100) ≤ nI s := nI_ge (show s < aLn 1100 from hs) (by decide)
    obtain ⟨k1, k2, k3⟩ := h.lkB o7 hp
    obtain ⟨f1, f2⟩ := h.frB0 hs hl12
    have fi := h.frI hs hl12
    have e0 : (0 : Int32).toInt = 0 := rfl
    obtain ⟨b1, -⟩ := h.lo.2.2.2.1 l hl
    have eL : zA S 401 j - zA S 402 j - zA S 403 j = x5 - x6 := Int32.toInt_inj.mp (by rw [k3, hx])
    have ef := e_free (S := S) (p := s) (l := l) (by omega) hl12
    by_cases z : lk S j = 0
    · -- nothing lacks
      have hx0 : (x5 - x6).toInt = 0 := by rw [hx, z]
      have le0 : x5 - x6 ≤ 0 := Int32.le_iff_toInt_le.mpr (by rw [hx0, e0]; exact Int.le_refl _)
      refine ⟨S, w, x6, fun f hf => ?_, fun K33 g => h.k70s hl12 hb K33 x1 x3 x4 x5 x6 hx0 (d + 1) s hsd g, h, hx, AQ.rf S, AV.rf H0 w, AL.rf S, LPj.rf S j _, hH, Or.inl z⟩
      obtain ⟨f, rfl⟩ : ∃ f', f = f' + 1 := ⟨f - 1, by omega⟩
      simp only [f_X11_holdInSlots_3, r_mb, bnd_s, r_mrd, r_mbo, r_mret, r_mthr, r_wA, r_wO, r_madd, r_mput, r_mopt, r_mcn, r_mcs, ite_f, e_isWithin, e_isSlot, e_isItem, e_isGroup, e_isRobot, e_isLot, e_isNotice, e_isOrder, e_isTask, bI_t, bI_f, i10, i00, i01, i11, i20, i30, ↓reduceIte, h18, e_lacking, eL, if_pos le0]
    · have le0 : ¬ x5 - x6 ≤ 0 := fun r => by
        have := Int32.le_iff_toInt_le.mp r
        rw [hx, e0] at this; omega
      obtain ⟨F, hF⟩ : ∃ F, F = zC S 0 (12 * s + l) - zC S 3 (12 * s + l) := ⟨_, rfl⟩
      obtain ⟨m, hm⟩ : ∃ m, m = mn F (x5 - x6) := ⟨_, rfl⟩
      rw [← hF] at ef fi
      have mi : m.toInt = if lk S j < fre S s l then lk S j else fre S s l := by rw [hm, mn_i, fi, hx]
      have hm' : (if F < x5 - x6 then F else x5 - x6) = m := by rw [hm, mn_comm]; rfl
      have k70 := fun K33 g => h.k70 (s := s) hs hl12 hb K33 (g + d) x1 x3 x4 x5 x6
      rw [← hF, ← hm] at k70
      have cls : ∀ f, (f_X11_holdInSlots_3 (f + 1) o j l (bI b) (nI s)).1 S = if fcS S s = b ∧ ¬ m ≤ 0 then (mb (f_X11_hold (some o) (some j) (nI s) l m) fun _ => f_X11_holdInSlots_3 f o j l (bI b) (nI (s + 1))).1 S else (f_X11_holdInSlots_3 f o j l (bI b) (nI (s + 1))).1 S := fun f => by
        have n01 : ¬ (0 : Int32) = 1 := by decide
        cases ho : zO S 902 s with
        | none =>
          have fc : fcS S s = false := by unfold fcS; rw [ho]; rfl
          cases b with
          | true =>
            rw [fc, if_neg (fun r => by cases r.1)]
            simp only [f_X11_holdInSlots_3, f_X11_holdInSlots_60, r_mb, bnd_s, r_mrd, r_mbo, r_mret, r_mthr, r_wA, r_wO, r_madd, r_mput, r_mopt, r_mcn, r_mcs, ite_f, e_isWithin, e_isSlot, e_isItem, e_isGroup, e_isRobot, e_isLot, e_isNotice, e_isOrder, e_isTask, bI_t, bI_f, i10, i00, i01, i11, i20, i30, ↓reduceIte, h18, e_lacking, eL, le0, b1, ef, hm', r_mnI (show s < aLn 1100 from hs) (show aLn 1100 < 2 ^ 31 by decide), nI_clamp (show s < 2 ^ 31 by omega), ho, n01, nI_1]
          | false =>
            rw [fc]
            by_cases q : m ≤ 0
            · rw [if_neg (fun r => r.2 q)]
              simp only [f_X11_holdInSlots_3, f_X11_holdInSlots_60, r_mb, bnd_s, r_mrd, r_mbo, r_mret, r_mthr, r_wA, r_wO, r_madd, r_mput, r_mopt, r_mcn, r_mcs, ite_f, e_isWithin, e_isSlot, e_isItem, e_isGroup, e_isRobot, e_isLot, e_isNotice, e_isOrder, e_isTask, bI_t, bI_f, i10, i00, i01, i11, i20, i30, ↓reduceIte, h18, e_lacking, eL, le0, b1, ef, hm', r_mnI (show s < aLn 1100 from hs) (show aLn 1100 < 2 ^ 31 by decide), nI_clamp (show s < 2 ^ 31 by omega), ho, q, nI_1]
            · rw [if_pos ⟨rfl, q⟩]
              simp only [f_X11_holdInSlots_3, f_X11_holdInSlots_60, r_mb, bnd_s, r_mrd, r_mbo, r_mret, r_mthr, r_wA, r_wO, r_madd, r_mput, r_mopt, r_mcn, r_mcs, ite_f, e_isWithin, e_isSlot, e_isItem, e_isGroup, e_isRobot, e_isLot, e_isNotice, e_isOrder, e_isTask, bI_t, bI_f, i10, i00, i01, i11, i20, i30, ↓reduceIte, h18, e_lacking, eL, le0, b1, ef, hm', r_mnI (show s < aLn 1100 from hs) (show aLn 1100 < 2 ^ 31 by decide), nI_clamp (show s < 2 ^ 31 by omega), ho, q, nI_1]
        | some i =>
          have fc : fcS S s = true := by unfold fcS; rw [ho]; rfl
          have n10 : ¬ (1 : Int32) = 0 := by decide
          cases b with
          | false =>
            rw [fc, if_neg (fun r => by cases r.1)]
            simp only [f_X11_holdInSlots_3, f_X11_holdInSlots_60, r_mb, bnd_s, r_mrd, r_mbo, r_mret, r_mthr, r_wA, r_wO, r_madd, r_mput, r_mopt, r_mcn, r_mcs, ite_f, e_isWithin, e_isSlot, e_isItem, e_isGroup, e_isRobot, e_isLot, e_isNotice, e_isOrder, e_isTask, bI_t, bI_f, i10, i00, i01, i11, i20, i30, ↓reduceIte, h18, e_lacking, eL, le0, b1, ef, hm', r_mnI (show s < aLn 1100 from hs) (show aLn 1100 < 2 ^ 31 by decide), nI_clamp (show s < 2 ^ 31 by omega), ho, n10, nI_1]
          | true =>
            rw [fc]
            by_cases q : m ≤ 0
            · rw [if_neg (fun r => r.2 q)]
              simp only [f_X11_holdInSlots_3, f_X11_holdInSlots_60, r_mb, bnd_s, r_mrd, r_mbo, r_mret, r_mthr, r_wA, r_wO, r_madd, r_mput, r_mopt, r_mcn, r_mcs, ite_f, e_isWithin, e_isSlot, e_isItem, e_isGroup, e_isRobot, e_isLot, e_isNotice, e_isOrder, e_isTask, bI_t, bI_f, i10, i00, i01, i11, i20, i30, ↓reduceIte, h18, e_lacking, eL, le0, b1, ef, hm', r_mnI (show s < aLn 1100 from hs) (show aLn 1100 < 2 ^ 31 by decide), nI_clamp (show s < 2 ^ 31 by omega), ho, q, nI_1]
            · rw [if_pos ⟨rfl, q⟩]
              simp only [f_X11_holdInSlots_3, f_X11_holdInSlots_60, r_mb, bnd_s, r_mrd, r_mbo, r_mret, r_mthr, r_wA, r_wO, r_madd, r_mput, r_mopt, r_mcn, r_mcs, ite_f, e_isWithin, e_isSlot, e_isItem, e_isGroup, e_isRobot, e_isLot, e_isNotice, e_isOrder, e_isTask, bI_t, bI_f, i10, i00, i01, i11, i20, i30, ↓reduceIte, h18, e_lacking, eL, le0, b1, ef, hm', r_mnI (show s < aLn 1100 from hs) (show aLn 1100 < 2 ^ 31 by decide), nI_clamp (show s < 2 ^ 31 by omega), ho, q, nI_1]
      by_cases q : fcS S s = b ∧ ¬ m ≤ 0
      · -- a holding is made
        have m0 : 1 ≤ m.toInt := by
          have := mt Int32.le_iff_toInt_le.mpr q.2
          rw [e0] at this; omega
        obtain ⟨S1, r1, r2, r3, r4, r5, r6, r7, r8⟩ := h.hdS (n := m) o7 hp h705 hs hl m0 (by rw [mi]; split <;> omega) (by rw [mi]; split <;> omega) (by
          by_cases c : lk S j < fre S s l
          · right; rw [mi, if_pos c]
          · left; rw [mi, if_neg c])
        obtain ⟨q1, q2, q3, q4, q5, q6⟩ := r3
        have elq : lqS S1 o j = lqS S o j := by unfold lqS; rw [q3 704 (by decide)]
        have x5b : (x5 - x6).toInt ≤ 99 := by rw [hx]; exact k2
        have hx1 : (x5 - (x6 + m)).toInt = lk S1 j := by
          rw [← Int32.sub_sub, sub_toInt (by rw [hx]; omega) (by rw [hx]; omega), hx, r6]
        obtain ⟨T, v, x6', c1, c2, c3, c4, c5, c6, c7, c8, c9, c10⟩ := slotsL (B := B) (k := k) (o := o) (p := p) (j := j) (l := l) (H0 := H0) hb x1 x3 x4 x5 d (s + 1) (by omega) S1 _ (x6 + m) r2 (by rw [q6 7 (by decide)]; exact o7) (by rw [q3 704 (by decide)]; exact hp) (by rw [q1 705 (by decide)]; exact h705) (by rw [q6 5 (by decide)]; exact hl) (by rw [elq]; exact h3) hx1 (by omega)
        have fT0 := fun s' (hs' : s' < 18) => (c3.frB0 (s := s') hs' hl12).1
        have av1 : AV H0 w (hdV w ((hL S).filter (hasO S)).length (nI (lqS S o j)) (nI s) (nI l) m) := ⟨fun f hf => hdV_A hf, fun f x hx => hdV_x (by omega), fun f hf => by rw [hdV_I, if_neg hf]⟩
        refine ⟨T, v, x6', fun f hf => ?_, fun K33 g => ?_, c3, c4, AQ.tr ⟨q1, q2, q3, q4, q5, q6⟩ c5, av1.tr c6, r4.tr c7, r5.tr c8, c9, ?_⟩
        · obtain ⟨f, rfl⟩ : ∃ f', f = f' + 1 := ⟨f - 1, by omega⟩
          rw [cls f, if_pos q, r_mb, r1, bnd_s, c1 f (by omega)]
        · rw [show g + (d + 1) = g + d + 1 by omega, k70 K33 g, if_pos q, ← c2 K33 g, h3]
        · have l0 := c3.lkB (by rw [c5.2.2.2.2.2 7 (by decide), q6 7 (by decide)]; exact o7) (by rw [c5.2.2.1 704 (by decide), q3 704 (by decide)]; exact hp)
          rcases c10 with y | y
          · exact Or.inl y
          · by_cases c : lk S j < fre S s l
            · left
              rw [if_pos c] at mi
              have := c8.2.1
              omega
            · rw [if_neg c] at mi
              right
              intro s' g1 g2 g3
              by_cases e : s' = s
              · have y2 := c8.2.2.1 s l hs hl12
                have y3 := fT0 s hs
                rw [e]; omega
              · refine y s' (by omega) g2 ?_
                unfold fcS at g3 ⊢
                rw [q2 902 (by decide)]; exact g3
      · obtain ⟨T, v, x6', c1, c2, c3, c4, c5, c6, c7, c8, c9, c10⟩ := slotsL (B := B) (k := k) (o := o) (p := p) (j := j) (l := l) (H0 := H0) hb x1 x3 x4 x5 d (s + 1) (by omega) S w x6 h o7 hp h705 hl h3 hx hH
        refine ⟨T, v, x6', fun f hf => ?_, fun K33 g => ?_, c3, c4, c5, c6, c7, c8, c9, ?_⟩
        · obtain ⟨f, rfl⟩ : ∃ f', f = f' + 1 := ⟨f - 1, by omega⟩
          rw [cls f, if_neg q, c1 f (by omega)]
        · rw [show g + (d + 1) = g + d + 1 by omega, k70 K33 g, if_neg q, ← c2 K33 g]
        · rcases c10 with y | y
          · exact Or.inl y
          · right
            intro s' g1 g2 g3
            by_cases e : s' = s
            · rw [e] at g3 ⊢
              have m0 : m ≤ 0 := Classical.byContradiction fun r => q ⟨g3, r⟩
              have m1 := Int32.le_iff_toInt_le.mp m0
              rw [e0, mi] at m1
              have y2 := c8.2.2.1 s l hs hl12
              have y3 := (c3.frB0 (s := s) hs hl12).1
              split at m1 <;> omega
            · exact y s' (by omega) g2 g3
