/-! a REFILL at its first station -/
section
variable {B k : Nat} {S T S1 Z A T1 U : Ss} {w v u w0 : MS}
theorem k_144a {t a l : Nat} (ht : t < 60) (ha : a < 18) (hl : l < 12) (h48 : mA w 48 t = nI a) (h : mA w 51 t ≤ mA w 20 (12 * a + l)) : g_X12_does_144 (nI t) (nI l) w = g_X12_does_195 (nI t) (nI l) w := by
  have e12 : (12 : Int32) * nI a + nI l = nI (12 * a + l) := by rw [show (12 : Int32) = nI 12 from rfl, pk_mul, nI_add]
  have ct := nI_clamp (show t < 2 ^ 31 by omega)
  have ca := nI_clamp (show 12 * a + l < 2 ^ 31 by omega)
  have ja : 12 * a + l < mL 20 := show 12 * a + l < 216 by omega
  unfold g_X12_does_144
  rw [r_grd, r_gnI (show t < mL 48 from ht) (show mL 48 < 2 ^ 31 by decide), ct, h48, e12, r_gnI ja (show mL 20 < 2 ^ 31 by decide), r_gbo, ca, r_gnI (show t < mL 51 from ht) (show mL 51 < 2 ^ 31 by decide), kif, if_pos h]
theorem k_144b {t a l : Nat} (ht : t < 60) (ha : a < 18) (hl : l < 12) (h48 : mA w 48 t = nI a) (h : ¬ mA w 51 t ≤ mA w 20 (12 * a + l)) {v1 : MS} (s1 : g_X12_shorts (nI a) (nI l) (mA w 20 (12 * a + l)) (nI t) (mSA 51 t (mA w 20 (12 * a + l)) w) = some ((), v1)) (s2 : g_X12_tidies v1 = some ((), u)) : g_X12_does_144 (nI t) (nI l) w = g_X12_does_195 (nI t) (nI l) u := by
  have e12 : (12 : Int32) * nI a + nI l = nI (12 * a + l) := by rw [show (12 : Int32) = nI 12 from rfl, pk_mul, nI_add]
  have ct := nI_clamp (show t < 2 ^ 31 by omega)
  have ca := nI_clamp (show 12 * a + l < 2 ^ 31 by omega)
  have ja : 12 * a + l < mL 20 := show 12 * a + l < 216 by omega
  have e48 : mA (mSA 51 t (mA w 20 (12 * a + l)) w) 48 t = nI a := by rw [fBA (by decide)]; exact h48
  unfold g_X12_does_144
  rw [r_grd, r_gnI (show t < mL 48 from ht) (show mL 48 < 2 ^ 31 by decide), ct, h48, e12, r_gnI ja (show mL 20 < 2 ^ 31 by decide), r_gbo, ca, r_gnI (show t < mL 51 from ht) (show mL 51 < 2 ^ 31 by decide), kif, if_neg h, r_gnI (show t < mL 51 from ht) (show mL 51 < 2 ^ 31 by decide), r_gst, r_grd, r_gnI (show t < mL 48 from ht) (show mL 48 < 2 ^ 31 by decide), e48, r_gb, s1, gbn_s, r_gb, s2, gbn_s]
theorem k_195z {t : Nat} {xl : Int32} (ht : t < 60) (h46 : mA w 46 t = 1) (h51 : mA w 51 t = 0) {v1 : MS} (e : g_X12_ends (nI t) 3 w = some ((), v1)) : g_X12_does_195 (nI t) xl w = some ((), v1) := by
  have ct := nI_clamp (show t < 2 ^ 31 by omega)
  have n2 : ¬ mA w 46 t = 2 := by rw [h46]; decide
  unfold g_X12_does_195
  rw [r_grd, r_gnI (show t < mL 46 from ht) (show mL 46 < 2 ^ 31 by decide), ct, kif, if_neg n2, r_gnI (show t < mL 51 from ht) (show mL 51 < 2 ^ 31 by decide), kif, if_pos h51, r_gb, e, gbn_s, r_gret]
theorem k_195l {t : Nat} {xl : Int32} (ht : t < 60) (h46 : mA w 46 t = 1) (h51 : ¬ mA w 51 t = 0) : g_X12_does_195 (nI t) xl w = some ((), mSA 54 t 1 w) := by
  have ct := nI_clamp (show t < 2 ^ 31 by omega)
  have n2 : ¬ mA w 46 t = 2 := by rw [h46]; decide
  unfold g_X12_does_195
  rw [r_grd, r_gnI (show t < mL 46 from ht) (show mL 46 < 2 ^ 31 by decide), ct, kif, if_neg n2, r_gnI (show t < mL 51 from ht) (show mL 51 < 2 ^ 31 by decide), kif, if_neg h51, r_gnI (show t < mL 54 from ht) (show mL 54 < 2 ^ 31 by decide), r_gst, r_gret]
theorem cst.dr {s l : Nat} {x : Int32} (h : WR S S1 none (some s) l x k) (hF : SF S1 U) : cst S (drS U) := by
  obtain ⟨-, -, -, -, -, -, wc, -⟩ := h
  unfold cst at wc ⊢
  have e : zN (drS U) = zN S1 := hF.2.2.2.2.2.2
  rw [e]; exact wc
theorem Rel.doL (h : Rel B k S w) (hk : k + 2 ≤ 1024) {t : Nat} (ht : t < zN S 10) (h5 : zA S 1005 t = 1) (hkd : zA S 1001 t = 1) (h6 : zA S 1006 t = 0) : ∃ T u k', (f_X11_doStationInSlot t).1 S = some ((), T) ∧ g_X12_does (nI t) w = some ((), u) ∧ Rel B k' T u ∧ BU S T w u k k' := by
  have h12 := h.lo.1
  have h60 := h.ta.1
  obtain ⟨-, t46, t49, t51, t52, t4b, -, x0, l, d1, d2, d3, d4, d5, d6, d7, d8⟩ := h.ta.2.2.2 t ht
  obtain ⟨hx0, ht0, t54, -⟩ := d7 (Or.inr h5)
  obtain ⟨b1, -⟩ := h.lo.2.2.2.1 l d4
  have n4 : zA S 1004 t = zA S 204 x0 := ((h.ho.2.1 x0 hx0).2.2.2.2.2 t ht0).2.2.2
  have tn := tI_of (h.ho.2.1 x0 hx0).2.1
  obtain ⟨a, ha, ha', hno⟩ : ∃ a, a < 18 ∧ zA S 202 x0 = nI a ∧ zO S 200 x0 = none := by
    rcases d8 with e | ⟨e1, e2, -, ⟨p, e3, e4⟩, -⟩ | e
    · rw [hkd] at e; exact absurd e.1 (by decide)
    · exact ⟨p, e3, e4, e2⟩
    · rw [hkd] at e; exact absurd e.1 (by decide)
  have hnO : ¬ hasO S x0 = true := by unfold hasO; rw [hno]; decide
  have i10' : ¬ (1 : Int32) = 0 := by decide
  have k2 : ¬ zA S 1001 t = 2 := by rw [hkd]; decide
  have a2 : cAt S 2 (nI a) (nI l) = zC S 2 (12 * a + l) := cAt_in (S := S) (r := 2) (p := a) (l := l) (show l < 12 by omega) (show a * 12 + l < 336 by omega)
  have w46 : mA w 46 t = 1 := by rw [t46, hkd]
  have w48 : mA w 48 t = nI a := by rw [d6, ha']
  have w51 : mA w 51 t = zA S 204 x0 := by rw [t51, n4]
  have w54 : mA w 54 t = 0 := by rw [t54, h6]
  have w20 : mA w 20 (12 * a + l) = zC S 2 (12 * a + l) := (h.tr.1 _ (by omega)).symm
  have e0 : (0 : Int32).toInt = 0 := rfl
  have r53 : ∀ Y : Ss, zA Y 1001 t = 1 → zA Y 1006 t = 0 → (f_X11_doStationInSlot_53 t).1 Y = some ((), pA 1006 t 1 Y) := fun Y y1 y2 => by
    simp only [f_X11_doStationInSlot_53, r_mrd, ite_f, y1, y2, ↓reduceIte, r_wA, r_mret]
  have ds := ds_2 (w := w) (show t < 60 by omega) (Or.inr ⟨w46, w54⟩)
  rw [d5] at ds
  by_cases q : zA S 204 x0 ≤ zC S 2 (12 * a + l)
  · -- all is there
    have nz : ¬ mA w 51 t = 0 := fun e => by rw [w51] at e; rw [e] at tn; exact absurd tn.1 (by decide)
    refine ⟨pA 1006 t 1 S, mSA 54 t 1 w, k, ?_, ?_, h.loadA ht k2, rfl, fun _ _ => rfl, cst.rf S, by rw [fAA (by decide)], fun p => ⟨by rw [fBA (by decide)], by rw [fAA (by decide)]⟩, ?_, rfl⟩
    · have q' : zA S 1004 t ≤ cAt S 2 (nI a) (nI l) := by rw [n4, a2]; exact q
      simp only [f_X11_doStationInSlot, r_mrd, r_mbo, d1, ite_f, h6, ↓reduceIte, r_mopt, d3, ha', b1, if_pos q', r53 S hkd h6]
    · rw [ds, k_144a (show t < 60 by omega) ha (show l < 12 by omega) w48 (by rw [w51, w20]; exact q), k_195l (show t < 60 by omega) w46 nz]
    · have cu := cT_up (S := S) (T := pA 1006 t 1 S) (t := t) (d := 1) (by
        unfold ctb
        rw [fAA (by decide), h5, sAA, if_pos rfl, h6]; rfl) (zN S 10) (fun p _ hn => by
        unfold ctb
        rw [fAA (by decide), sAA, if_neg hn])
      rw [if_pos ht] at cu
      omega
  · -- there is less
    have hlt : zC S 2 (12 * a + l) < zA S 204 x0 := Int32.not_le.mp q
    obtain ⟨S1, U, v1, u, e1, e2, e3, e4, e5, s1, s2, kx, xn0, v19, v20, v21, vI, vB, c1, fx0, c2⟩ := h.kLess (by omega) ha d4 hx0 ht0 ha' d3 hlt
    have run : (f_X11_doStationInSlot t).1 S = some ((), pA 1006 t 1 (drS U)) := by
      have q' : ¬ zA S 1004 t ≤ cAt S 2 (nI a) (nI l) := by rw [n4, a2]; exact q
      have y1 : zA (drS U) 1001 t = 1 := by rw [drS_A, e4.1 1001 (by decide), e1.1 1001 (by decide), hkd]
      have y2 : zA (drS U) 1006 t = 0 := by rw [drS_A, e4.1 1006 (by decide), e1.1 1006 (by decide), h6]
      simp only [f_X11_doStationInSlot, r_mrd, r_mbo, d1, ite_f, h6, ↓reduceIte, r_mopt, d3, ha', b1, if_neg q', r_mb, e2, bnd_s, r53 (drS U) y1 y2]
    have g144 : g_X12_does (nI t) w = g_X12_does_195 (nI t) (nI l) u := by
      rw [ds, k_144b (w := w) (show t < 60 by omega) ha (show l < 12 by omega) w48 (by rw [w51, w20]; exact q) (by rw [w20]; exact s1) s2]
    have u46 : mA u 46 t = 1 := by rw [vB 46 (by decide), w46]
    have u51 : mA u 51 t = zC S 2 (12 * a + l) := by rw [(kx.2.1 t ht).1, c1]
    have U6 : zA (drS U) 1006 = zA S 1006 := by rw [drS_A, e4.1 1006 (by decide), e1.1 1006 (by decide)]
    have hsub : ∀ y, y ∈ cutL S a l (some x0) 9 → y ∈ hL S := fun y hy => by
      rcases cutL_m 9 y hy with e | e
      · cases e; exact hx0
      · exact e.1
    have UN : ∀ f, f ≠ 60 ∧ f ≠ 61 ∧ f ≠ 62 → zN (drS U) f = zN S f := fun f hf => by
      have e : zN (drS U) = zN S1 := e4.2.2.2.2.2.2
      rw [e, e1.2.2.2.2.2.1 f hf]
    have UP : zP (drS U) = zP S := by rw [drS_P, e4.2.2.2.1, e1.2.2.2.1]
    have UA : ∀ f, f ≠ 7 ∧ f ≠ 204 ∧ f ≠ 402 ∧ f ≠ 1004 ∧ f ≠ 1005 → zA (drS U) f = zA S f := fun f hf => by rw [drS_A, e4.1 f hf.2, e1.1 f hf.1]
    have bu : ∀ u' k', k' ≤ k + 1 → mA u' 57 = mA w 57 → mI u' 0 = mI w 0 → BU S (pA 1006 t 1 (drS U)) w u' k k' := fun u' k' hk' h57 h0 => by
      refine ⟨UP, UN, cst.dr e1 e4, by rw [fAA (by decide), UA 705 (by decide)], fun p => ⟨by rw [h57], by rw [fAA (by decide), UA 803 (by decide)]⟩, ?_, h0⟩
      have c0 : cT (drS U) (zN S 10) = cT S (zN S 10) := (cT_eq (S := U) (T := drS U) (fun _ => rfl) (fun _ => rfl) _).trans (h.cutT2 e5 hsub (by rw [e4.1 1006 (by decide), e1.1 1006 (by decide)]))
      have cu := cT_up (S := drS U) (T := pA 1006 t 1 (drS U)) (t := t) (d := 1) (by
        unfold ctb
        have y5 : ¬ zA (drS U) 1005 t = 2 := by
          rw [drS_A, c2]; split
          · decide
          · rw [h5]; decide
        rw [fAA (by decide), sAA, if_pos rfl, if_neg y5, if_neg y5, U6, h6]; rfl) (zN S 10) (fun p _ hn => by
        unfold ctb
        rw [fAA (by decide), sAA, if_neg hn])
      rw [if_pos ht] at cu
      omega
    by_cases z : zC S 2 (12 * a + l) = 0
    · -- nothing
      obtain ⟨u1, -, f1, -, -, f4, f5, -, f7, -⟩ := h.kxE kx (vB 53 (by decide)) hx0 ht0 3 (by decide)
      have kx1 := (f4 hnO).cg (p' := fcut (zA S 204) (cutL S a l (some x0) 9) (zC S 2 (12 * a + l))) (st' := zA U 1005) (fun y _ hy => by
        by_cases e : y = x0
        · rw [e] at hy; exact absurd hy hnO
        · rw [if_neg e, if_neg e]) (fun t' _ => by
        by_cases e : t' = t
        · rw [if_pos e, e, c2, if_pos z]
        · rw [if_neg e, if_neg e]) h.rowN
      obtain ⟨k', k1, R⟩ := h.shF (u := u1) (by omega) ha d4 (f0 := some x0) (fun y hy => by cases hy; exact hx0) rfl xn0 e1 e3 e4 e5 kx1 (fun j _ => by rw [f7 19 (by decide), v19]) (by rw [f7 20 (by decide), v20]) (fun j => by rw [f7 21 (by decide), v21]) (fun f hf => by rw [f5, vI f hf.2]) (fun f hf => by rw [f7 f (by omega), vB f hf])
      refine ⟨pA 1006 t 1 (drS U), u1, k', run, ?_, R.loadN ?_, bu u1 k' k1 (by rw [f7 57 (by decide), vB 57 (by decide)]) (by rw [f5, vI 0 (by decide)])⟩
      · rw [g144, k_195z (show t < 60 by omega) u46 (by rw [u51, z]) f1]
      · unfold onT
        rw [drS_A, c2, if_pos z]; decide
    · have kx1 := kx.cg (p' := fcut (zA S 204) (cutL S a l (some x0) 9) (zC S 2 (12 * a + l))) (st' := zA U 1005) (fun y _ hy => by
        by_cases e : y = x0
        · rw [e] at hy; exact absurd hy hnO
        · rw [if_neg e]) (fun t' _ => by
        by_cases e : t' = t
        · rw [if_pos e, e, c2, if_neg z]
        · rw [if_neg e]) h.rowN
      obtain ⟨k', k1, R⟩ := h.shF (u := u) (by omega) ha d4 (f0 := some x0) (fun y hy => by cases hy; exact hx0) rfl xn0 e1 e3 e4 e5 kx1 (fun j _ => v19 j) v20 v21 (fun f hf => vI f hf.2) vB
      refine ⟨pA 1006 t 1 (drS U), mSA 54 t 1 u, k', run, ?_, R.loadA (by rw [UN 10 (by decide)]; exact ht) (by rw [UA 1001 (by decide)]; exact k2), bu _ k' k1 (by rw [fBA (by decide), vB 57 (by decide)]) (by rw [tIB, vI 0 (by decide)])⟩
      rw [g144, k_195l (show t < 60 by omega) u46 (by rw [u51]; exact z)]
end
