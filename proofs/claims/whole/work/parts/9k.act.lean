/-! a robot's turn -/
section
variable {B k : Nat} {S T S1 : Ss} {w v u w0 : MS}
theorem k_tn {r : Nat} (hr : r < 3) (h59 : mA w 59 r = 0) : g_X12_turns (nI r) w = some ((), mSA 55 r (-1) (mSA 57 r (-1) w)) := by
  have cr := nI_clamp (show r < 2 ^ 31 by omega)
  have f : ∀ f, f ≠ 57 → mA (mSA 57 r (-1) w) f = mA w f := fun f hf => fBA hf
  by_cases q : mA w 55 r = -1
  · have e : mSA 55 r (-1) (mSA 57 r (-1) w) = mSA 57 r (-1) w := by
      have := mSA_id 55 r (mSA 57 r (-1) w)
      rw [f 55 (by decide), q] at this; exact this
    rw [e]
    simp only [g_X12_turns, g_X12_turns_29, g_X12_turns_58, g_X12_turns_83, g_X12_turns_102, kif, r_gb, gbn_s, r_grd, r_gbo, r_gret, r_gst, k_isIn, k_isSlot, k_isItem, k_isGroup, k_isRobot, k_are, k_holds0, k_holds1, k_holds2, k_holds3, k_bit, k_less, bI_t, bI_f, i10, i00, i01, i11, i20, i30, ↓reduceIte, r_gnI (show r < mL 57 from hr) (show mL 57 < 2 ^ 31 by decide), r_gnI (show r < mL 59 from hr) (show mL 59 < 2 ^ 31 by decide), r_gnI (show r < mL 55 from hr) (show mL 55 < 2 ^ 31 by decide), cr, f 59 (by decide), h59, f 55 (by decide), q]
  · simp only [g_X12_turns, g_X12_turns_29, g_X12_turns_58, g_X12_turns_83, g_X12_turns_102, kif, r_gb, gbn_s, r_grd, r_gbo, r_gret, r_gst, k_isIn, k_isSlot, k_isItem, k_isGroup, k_isRobot, k_are, k_holds0, k_holds1, k_holds2, k_holds3, k_bit, k_less, bI_t, bI_f, i10, i00, i01, i11, i20, i30, ↓reduceIte, r_gnI (show r < mL 57 from hr) (show mL 57 < 2 ^ 31 by decide), r_gnI (show r < mL 59 from hr) (show mL 59 < 2 ^ 31 by decide), r_gnI (show r < mL 55 from hr) (show mL 55 < 2 ^ 31 by decide), cr, f 59 (by decide), h59, f 55 (by decide), q]
theorem k_t29 {r t : Nat} (hr : r < 3) (h59 : ¬ mA w 59 r = 0) (h58 : mA w 58 (60 * r) = nI t) : g_X12_turns (nI r) w = g_X12_turns_29 (nI r) (nI t) (mSA 57 r (-1) w) := by
  have cr := nI_clamp (show r < 2 ^ 31 by omega)
  have f : ∀ f, f ≠ 57 → mA (mSA 57 r (-1) w) f = mA w f := fun f hf => fBA hf
  have e60 : (60 : Int32) * nI r = nI (60 * r) := by rw [show (60 : Int32) = nI 60 from rfl, pk_mul]
  have c60 := nI_clamp (show 60 * r < 2 ^ 31 by omega)
  unfold g_X12_turns
  rw [r_gnI (show r < mL 57 from hr) (show mL 57 < 2 ^ 31 by decide), r_gst, cr, r_grd, r_gnI (show r < mL 59 from hr) (show mL 59 < 2 ^ 31 by decide), f 59 (by decide), kif, if_neg h59, e60, r_gnI (show 60 * r < mL 58 from show 60 * r < 180 by omega) (show mL 58 < 2 ^ 31 by decide), c60, f 58 (by decide), h58]
theorem k_ta {r t : Nat} (hr : r < 3) (ht : t < 60) (h46 : mA w 46 t = 0) (h54 : mA w 54 t = 0) : g_X12_turns_29 (nI r) (nI t) w = if mA w 55 r = -1 then some ((), mSA 54 t 1 w) else some ((), mSA 55 r (-1) w) := by
  have cr := nI_clamp (show r < 2 ^ 31 by omega)
  have ct := nI_clamp (show t < 2 ^ 31 by omega)
  have hm1 : ¬ nI t = -1 := fun e => by
    have := (fcI_m1 (o := some t) (fun j hj => by cases hj; omega)).mp e
    cases this
  by_cases q : mA w 55 r = -1
  · simp only [g_X12_turns_29, g_X12_turns_58, g_X12_turns_83, kif, r_gb, gbn_s, r_grd, r_gbo, r_gret, r_gst, k_isIn, k_isSlot, k_isItem, k_isGroup, k_isRobot, k_are, k_holds0, k_holds1, k_holds2, k_holds3, k_bit, k_less, bI_t, bI_f, i10, i00, i01, i11, i20, i30, ↓reduceIte, hm1, r_gnI (show t < mL 46 from ht) (show mL 46 < 2 ^ 31 by decide), r_gnI (show t < mL 54 from ht) (show mL 54 < 2 ^ 31 by decide), ct, h46, h54, r_gnI (show r < mL 55 from hr) (show mL 55 < 2 ^ 31 by decide), cr, q]
  · simp only [g_X12_turns_29, g_X12_turns_58, g_X12_turns_83, kif, r_gb, gbn_s, r_grd, r_gbo, r_gret, r_gst, k_isIn, k_isSlot, k_isItem, k_isGroup, k_isRobot, k_are, k_holds0, k_holds1, k_holds2, k_holds3, k_bit, k_less, bI_t, bI_f, i10, i00, i01, i11, i20, i30, ↓reduceIte, hm1, r_gnI (show t < mL 46 from ht) (show mL 46 < 2 ^ 31 by decide), r_gnI (show t < mL 54 from ht) (show mL 54 < 2 ^ 31 by decide), ct, h46, h54, r_gnI (show r < mL 55 from hr) (show mL 55 < 2 ^ 31 by decide), cr, q]
theorem k_tb {r t : Nat} (ht : t < 60) (hst : ¬ (mA w 46 t = 0 ∧ mA w 54 t = 0)) : g_X12_turns_29 (nI r) (nI t) w = g_X12_turns_102 (nI r) (nI t) 0 w := by
  have ct := nI_clamp (show t < 2 ^ 31 by omega)
  have hm1 : ¬ nI t = -1 := fun e => by
    have := (fcI_m1 (o := some t) (fun j hj => by cases hj; omega)).mp e
    cases this
  have e58 : g_X12_turns_58 (nI r) (nI t) 0 w = g_X12_turns_102 (nI r) (nI t) 0 w := by
    unfold g_X12_turns_58 g_X12_turns_83
    rw [r_grd, if_pos rfl, if_pos rfl]
  by_cases q : mA w 46 t = 0
  · have q2 : ¬ mA w 54 t = 0 := fun r => hst ⟨q, r⟩
    unfold g_X12_turns_29 g_X12_turns_57
    rw [r_grd, kif, if_neg hm1, r_gnI (show t < mL 46 from ht) (show mL 46 < 2 ^ 31 by decide), ct, kif, if_pos q, r_gnI (show t < mL 54 from ht) (show mL 54 < 2 ^ 31 by decide), kif, if_neg q2, e58]
  · unfold g_X12_turns_29 g_X12_turns_57
    rw [r_grd, kif, if_neg hm1, r_gnI (show t < mL 46 from ht) (show mL 46 < 2 ^ 31 by decide), ct, kif, if_neg q, e58]
theorem k_tc {r t : Nat} (ht : t < 60) (hs : mA w 46 t = 2 ∨ (mA w 46 t = 1 ∧ mA w 54 t = 0)) : g_X12_turns_102 (nI r) (nI t) 0 w = gbnV (g_X12_goesTo (nI r) (nI t) (mA w 48 t) w) := by
  have ct := nI_clamp (show t < 2 ^ 31 by omega)
  have e138 : g_X12_turns_138 (nI t) (nI r) (nI t) w = gbnV (g_X12_goesTo (nI r) (nI t) (mA w 48 t) w) := by
    unfold g_X12_turns_138 g_X12_turns_153
    rw [r_grd, r_gnI (show t < mL 48 from ht) (show mL 48 < 2 ^ 31 by decide), ct, r_gb]; rfl
  unfold g_X12_turns_102
  rw [r_grd, if_pos rfl, r_gnI (show t < mL 46 from ht) (show mL 46 < 2 ^ 31 by decide), ct, kif]
  rcases hs with h | h
  · rw [if_pos h, e138]
  · rw [if_neg (by rw [h.1]; decide), r_gnI (show t < mL 46 from ht) (show mL 46 < 2 ^ 31 by decide), kif, if_pos h.1, r_gnI (show t < mL 54 from ht) (show mL 54 < 2 ^ 31 by decide), kif, if_pos h.2, e138]
theorem k_td {r t : Nat} (ht : t < 60) (hs : mA w 46 t = 0 ∨ (mA w 46 t = 1 ∧ ¬ mA w 54 t = 0)) : g_X12_turns_102 (nI r) (nI t) 0 w = gbnV (g_X12_goesTo (nI r) (nI t) (mA w 49 t) w) := by
  have ct := nI_clamp (show t < 2 ^ 31 by omega)
  have e147 : g_X12_turns_147 (nI t) (nI r) (nI t) w = gbnV (g_X12_goesTo (nI r) (nI t) (mA w 49 t) w) := by
    unfold g_X12_turns_147 g_X12_turns_153
    rw [r_grd, r_gnI (show t < mL 49 from ht) (show mL 49 < 2 ^ 31 by decide), ct, r_gb]; rfl
  unfold g_X12_turns_102
  rw [r_grd, if_pos rfl, r_gnI (show t < mL 46 from ht) (show mL 46 < 2 ^ 31 by decide), ct, kif]
  rcases hs with h | h
  · rw [if_neg (by rw [h]; decide), r_gnI (show t < mL 46 from ht) (show mL 46 < 2 ^ 31 by decide), kif, if_neg (by rw [h]; decide), e147]
  · rw [if_neg (by rw [h.1]; decide), r_gnI (show t < mL 46 from ht) (show mL 46 < 2 ^ 31 by decide), kif, if_pos h.1, r_gnI (show t < mL 54 from ht) (show mL 54 < 2 ^ 31 by decide), kif, if_neg h.2, e147]
/-- what a turn may use -/
def AU (S T : Ss) (w v : MS) (r k k' : Nat) : Prop := zP T = zP S ∧ (∀ f, f ≠ 60 ∧ f ≠ 61 ∧ f ≠ 62 → zN T f = zN S f) ∧ cst S T ∧ zA T 705 = zA S 705 ∧ (∀ q, q ≠ r → mA v 57 q = mA w 57 q ∧ zA T 803 q = zA S 803 q) ∧ mA v 57 r = zA T 803 r ∧ k' + cT S (zN S 10) ≤ k + cT T (zN S 10) ∧ mI v 0 = mI w 0
theorem frT_P (S : Ss) (r : Nat) : zP (frT S r) = zP S := by
  funext a b
  show u2 800 r (zP S 800 r) (zP S) a b = _
  rw [u2_at]; split
  · rename_i e; rw [e.1, e.2]
  · rfl
theorem Rel.go (h : Rel B k S w) (hk : k + 2 ≤ 1024) (hB9 : B + 99 ≤ 8000000) {r t s : Nat} (hr : r < 3) (ht : t < zN S 10) (h5 : zA S 1005 t = 1) (hst : ¬ (zA S 1001 t = 0 ∧ zA S 1006 t = 0)) (hs : s < 18) (h57 : mA w 57 r = zA S 803 r) : ∃ T u k', (f_X11_act_37 r (some t) (nI s) (nI s / 6)).1 S = some ((), T) ∧ g_X12_goesTo (nI r) (nI t) (nI s) w = some ((), u) ∧ Rel (B + 99) k' T u ∧ AU S T w u r k k' := by
  have cr := nI_clamp (show r < 2 ^ 31 by omega)
  have e6 : nI s / 6 = nI (s / 6) := by rw [show (6 : Int32) = nI 6 from rfl, pk_div (by omega) (by decide) (by decide)]
  have e6r : nI s - nI (s / 6) * 6 = nI (s % 6) := by
    have := pk_rem (a := s) (d := 6) (by omega) (by decide) (by decide)
    rw [← e6]; exact this
  have hm1 : ¬ nI s = -1 := fun e => nI_ne1 s hs e.symm
  have lane : s / 6 < 3 := by omega
  have at6 : s % 6 < 6 := Nat.mod_lt _ (by decide)
  have up : ∀ {T : Ss} {u : MS} {k' : Nat}, Rel B k' T u → Rel (B + 99) k' T u := fun {T u k'} R => by
    have nn : g_nn (B + 99) T := by
      obtain ⟨n1, n2, n3⟩ := R.nn
      refine ⟨hB9, fun j hj => ?_, fun j hj => ?_⟩
      · have := tI_of (n2 j hj); exact ⟨by omega, by omega⟩
      · have := tI_of (n3 j hj); exact ⟨by omega, by omega⟩
    exact ⟨R.sl, R.it, R.ba, R.sc, R.lo, R.be, R.no, R.ca, R.aw, R.or, R.li, R.bk, nn, R.tr, R.db, R.mv, R.ho, R.hs, R.hm, R.ta, R.ap, R.ro, R.st, R.bx⟩
  obtain ⟨a1, a2, -⟩ := h.ro.1 r hr
  have j55 : r < mL 55 := hr
  have j56 : r < mL 56 := hr
  have j57 : r < mL 57 := hr
  have c37 : (f_X11_act_37 r (some t) (nI s) (nI s / 6)).1 S = (f_X11_act_66 r (some t) (nI s) (nI (s / 6)) (nI (s % 6))).1 S := by
    unfold f_X11_act_37
    rw [r_mrd, r_mbo, ite_f, if_neg hm1, e6, e6r]
  have ne1 : ∀ p, p < 6 → ¬ nI p = (-1 : Int32) := fun p hp e => nI_ne1 p (by omega) e.symm
  by_cases q1 : zA S 801 r = nI (s / 6)
  · rcases a2 with a2 | ⟨a, p, b1, b2, b3, b4, b5⟩
    · exact absurd (a2.symm.trans q1).symm (ne1 _ (by omega))
    · by_cases q2 : p = s % 6
      · -- the station
        obtain ⟨T, u, k', f1, f2, f3, f4, f5, f6, f7, f8, f9, f10⟩ := h.station hk hB9 ht h5 hst
        refine ⟨T, u, k', ?_, ?_, f3, f4, f5, f6, f7, fun q _ => f8 q, by rw [(f8 r).1, (f8 r).2, h57], f9, f10⟩
        · rw [c37]
          unfold f_X11_act_66
          rw [r_mrd, ite_f, if_neg hm1, ite_f, if_pos q1, ite_f, if_pos (by rw [b4, q2]), r_mopt, r_mb, f1, bnd_s, r_mret]
        · unfold g_X12_goesTo
          rw [r_grd, r_gbo, r_gbo, r_gnI j55 (show mL 55 < 2 ^ 31 by decide), cr, e6, e6r, kif, if_pos (by rw [a1]; exact q1), r_gnI j56 (show mL 56 < 2 ^ 31 by decide), kif, if_pos (by rw [b5, q2]), r_gb, f2, gbn_s, r_gret]
      · -- a step
        have q2' : ¬ zA S 802 r = nI (s % 6) := fun e => q2 ((nI_eq (by omega) (by omega)).mp (b4.symm.trans e))
        have q2w : ¬ mA w 56 r = nI (s % 6) := fun e => q2 ((nI_eq (by omega) (by omega)).mp (b5.symm.trans e))
        have hne : ¬ zA S 801 r = -1 := by rw [q1]; exact ne1 _ (by omega)
        obtain ⟨p', hp', hp1, hp2⟩ : ∃ p', p' < 6 ∧ (nI (s % 6) ≤ nI p → nI p + (-1) = nI p') ∧ (¬ nI (s % 6) ≤ nI p → nI p + 1 = nI p') := by
          by_cases e : s % 6 ≤ p
          · refine ⟨p - 1, by omega, fun _ => ?_, fun n => absurd (nI_le e (by omega)) n⟩
            obtain ⟨p9, rfl⟩ : ∃ p9, p = p9 + 1 := ⟨p - 1, by omega⟩
            exact pk_m1 p9
          · exact ⟨p + 1, by omega, fun n => absurd n (nI_ge (by omega) (by omega)), fun _ => nI_1 p⟩
        refine ⟨pA 802 r (nI p') S, mSA 56 r (nI p') w, k, ?_, ?_, up (h.posA hr hp' hne), rfl, fun _ _ => rfl, cst.rf S, by rw [fAA (by decide)], fun q _ => ⟨by rw [fBA (by decide)], by rw [fAA (by decide)]⟩, by rw [fBA (by decide), fAA (by decide), h57], ?_, rfl⟩
        · rw [c37]
          unfold f_X11_act_66 f_X11_act_104 f_X11_act_132
          rw [r_mrd, ite_f, if_neg hm1, ite_f, if_pos q1, ite_f, if_neg q2', r_mrd, ite_f, if_pos q1, ite_f, b4]
          by_cases e : nI (s % 6) ≤ nI p
          · rw [if_pos e, r_wA, hp1 e, r_mret]
          · rw [if_neg e, r_wA, hp2 e, r_mret]
        · unfold g_X12_goesTo g_X12_goesTo_65
          rw [r_grd, r_gbo, r_gbo, r_gnI j55 (show mL 55 < 2 ^ 31 by decide), cr, e6, e6r, kif, if_pos (by rw [a1]; exact q1), r_gnI j56 (show mL 56 < 2 ^ 31 by decide), kif, if_neg q2w, r_gnI j56 (show mL 56 < 2 ^ 31 by decide), r_gnI j56 (show mL 56 < 2 ^ 31 by decide), kif, b5]
          by_cases e : nI (s % 6) ≤ nI p
          · rw [if_pos e, r_gmd _ (show isA 56 = true by decide), r_gnI j56 (show mL 56 < 2 ^ 31 by decide), r_gst, hp1 e, r_gret]
          · rw [if_neg e, r_gmd _ (show isA 56 = true by decide), r_gnI j56 (show mL 56 < 2 ^ 31 by decide), r_gst, hp2 e, r_gret]
        · have cu : cT (pA 802 r (nI p') S) (zN S 10) = cT S (zN S 10) := cT_eq (fun _ => by rw [fAA (by decide)]) (fun _ => by rw [fAA (by decide)]) _
          omega
  · have q1w : ¬ mA w 55 r = nI (s / 6) := by rw [a1]; exact q1
    have c104 : (f_X11_act_66 r (some t) (nI s) (nI (s / 6)) (nI (s % 6))).1 S = (mb (f_X11_robotIn (nI (s / 6))) fun r64 => mcase r64 (wA 801 r (nI (s / 6)) <| wA 802 r 0 <| mret ()) fun i67 => wA 803 r (nI (s / 6)) <| mret ()).1 S := by
      unfold f_X11_act_66 f_X11_act_104
      rw [r_mrd, ite_f, if_neg hm1, ite_f, if_neg q1, r_mrd, ite_f, if_neg q1]
    have g104 : g_X12_goesTo (nI r) (nI t) (nI s) w = gbn (g_X12_isHeldByOther (nI r) (nI (s / 6)) w) fun x57 w1 => (if x57 = 0 then gix (nI r) (mL 55) <| gst (mSA 55 (nI r).toNatClampNeg (nI (s / 6))) <| gix (nI r) (mL 56) <| gst (mSA 56 (nI r).toNatClampNeg 0) <| gret () else gix (nI r) (mL 57) <| gst (mSA 57 (nI r).toNatClampNeg (nI (s / 6))) <| gret () : GM Unit) w1 := by
      unfold g_X12_goesTo
      rw [r_grd, r_gbo, r_gbo, r_gnI j55 (show mL 55 < 2 ^ 31 by decide), cr, e6, e6r, kif, if_neg q1w, r_gb]
    obtain ⟨o, o1, o2, o3⟩ := e_robotIn (S := S) (nI (s / 6))
    obtain ⟨hb1, hb2⟩ := k_heldBy (w := w) hr (nI (s / 6))
    cases o with
    | none =>
      have hu := o2 rfl
      have hb := hb2 fun q hq r => by
        have := (h.ro.1 q hq).1
        rw [this] at r
        exact hu q hq r.2
      refine ⟨pA 802 r 0 (pA 801 r (nI (s / 6)) S), mSA 56 r 0 (mSA 55 r (nI (s / 6)) w), k, ?_, ?_, up (h.goA lane hu), rfl, fun _ _ => rfl, cst.rf S, by rw [fAA (by decide), fAA (by decide)], fun q _ => ⟨by rw [fBA (by decide), fBA (by decide)], by rw [fAA (by decide), fAA (by decide)]⟩, by rw [fBA (by decide), fBA (by decide), fAA (by decide), fAA (by decide), h57], ?_, rfl⟩
      · rw [c37, c104, r_mb, o1, bnd_s, r_mcn, r_wA, r_wA, r_mret]
      · rw [g104, hb, gbn_s, kif, if_pos rfl, r_gnI j55 (show mL 55 < 2 ^ 31 by decide), r_gst, r_gnI j56 (show mL 56 < 2 ^ 31 by decide), r_gst, cr, r_gret]
      · have cu : cT (pA 802 r 0 (pA 801 r (nI (s / 6)) S)) (zN S 10) = cT S (zN S 10) := cT_eq (fun _ => by rw [fAA (by decide), fAA (by decide)]) (fun _ => by rw [fAA (by decide), fAA (by decide)]) _
        omega
    | some p =>
      obtain ⟨p1, p2⟩ := o3 p rfl
      have hb := hb1 ⟨p, p1, fun e => q1 (e ▸ p2), by rw [(h.ro.1 p p1).1]; exact p2⟩
      refine ⟨pA 803 r (nI (s / 6)) S, mSA 57 r (nI (s / 6)) w, k, ?_, ?_, up (h.wt r _ _), rfl, fun _ _ => rfl, cst.rf S, by rw [fAA (by decide)], fun q hq => ⟨by rw [sBA, if_neg hq], by rw [sAA, if_neg hq]⟩, by rw [sBA, sAA, if_pos rfl, if_pos rfl], ?_, rfl⟩
      · rw [c37, c104, r_mb, o1, bnd_s, r_mcs, r_wA, r_mret]
      · rw [g104, hb, gbn_s, kif, if_neg (by decide), r_gnI j57 (show mL 57 < 2 ^ 31 by decide), r_gst, cr, r_gret]
      · have cu : cT (pA 803 r (nI (s / 6)) S) (zN S 10) = cT S (zN S 10) := cT_eq (fun _ => by rw [fAA (by decide)]) (fun _ => by rw [fAA (by decide)]) _
        omega
end
