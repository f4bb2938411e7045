/-! a PICK at its station -/
section
variable {B k : Nat} {S T S1 Z A T1 U : Ss} {w v u w0 wz : MS}
theorem Rel.doP (h : Rel B k S w) (hk : k + 2 ≤ 1024) (hB9 : B + 99 ≤ 8000000) {t : Nat} (ht : t < zN S 10) (h5 : zA S 1005 t = 1) (hkd : zA S 1001 t = 2) : ∃ T u k', (f_X11_doStationInSlot t).1 S = some ((), T) ∧ g_X12_does (nI t) w = some ((), u) ∧ Rel (B + 99) k' T u ∧ BU S T w u k k' := by
  have h12 := h.lo.1
  have h60 := h.ta.1
  obtain ⟨-, t46, t49, t51, t52, t4b, -, x0, l, d1, d2, d3, d4, d5, d6, d7, d8⟩ := h.ta.2.2.2 t ht
  obtain ⟨hx0, ht0, t54, -⟩ := d7 (Or.inr h5)
  obtain ⟨b1, -⟩ := h.lo.2.2.2.1 l d4
  have n4 : zA S 1004 t = zA S 204 x0 := ((h.ho.2.1 x0 hx0).2.2.2.2.2 t ht0).2.2.2
  have tn := tI_of (h.ho.2.1 x0 hx0).2.1
  obtain ⟨a, o, j, ha, ha', h6, ho, hj, ho7, hjm, t50, hs'⟩ : ∃ a o j, a < 18 ∧ zA S 202 x0 = nI a ∧ zA S 1006 t = 0 ∧ zO S 200 x0 = some o ∧ zO S 201 x0 = some j ∧ o < zN S 7 ∧ j ∈ zL S 704 o ∧ mA w 50 t = nI (lqS S o j) ∧ zA S 1003 t = nI (20 + o) := by
    rcases d8 with e | e | ⟨e1, ⟨p, e2, e3⟩, e4, o, j, e5, e6, e7, e8, e9, e10⟩
    · rw [hkd] at e; exact absurd e.1 (by decide)
    · rw [hkd] at e; exact absurd e.1 (by decide)
    · exact ⟨p, o, j, e2, e3, e4 (Or.inr h5), e5, e6, e7, e8, e9, e10⟩
  obtain ⟨-, -, -, -, h705, -⟩ := h.hpos hx0 ho
  have q1 : ¬ (2 : Int32) = 1 := by decide
  have a2 : cAt S 2 (nI a) (nI l) = zC S 2 (12 * a + l) := cAt_in (S := S) (r := 2) (p := a) (l := l) (show l < 12 by omega) (show a * 12 + l < 336 by omega)
  have w46 : mA w 46 t = 2 := by rw [t46, hkd]
  have w48 : mA w 48 t = nI a := by rw [d6, ha']
  have w51 : mA w 51 t = zA S 204 x0 := by rw [t51, n4]
  have w20 : mA w 20 (12 * a + l) = zC S 2 (12 * a + l) := (h.tr.1 _ (by omega)).symm
  have e0 : (0 : Int32).toInt = 0 := rfl
  have r53 : ∀ Y : Ss, zA Y 1001 t = 2 → (f_X11_doStationInSlot_53 t).1 Y = gbnU ((f_X11_finish t).1 Y) := fun Y y1 => by
    simp only [f_X11_doStationInSlot_53, f_X11_doStationInSlot_76, r_mrd, ite_f, y1, q1, ↓reduceIte]
    rfl
  have ds := ds_2 (w := w) (show t < 60 by omega) (Or.inl w46)
  rw [d5] at ds
  have tb := tI_of (h.nn.2.1 (12 * a + l) (by omega))
  have tt := tI_of (h.nn.2.2 (12 * a + l) (by omega))
  have B8 := h.nn.1
  have hnb := h.hn1 hx0 (show a < 19 by omega) (show l < 12 by omega) ha' d3
  by_cases q : zA S 204 x0 ≤ zC S 2 (12 * a + l)
  · have q' := Int32.le_iff_toInt_le.mp q
    have z0 : ∀ j, dd none (some a) l 0 j = 0 := fun j => dd_z _ _ _ _
    obtain ⟨T, u, k', f1, f2, f3, f4, f5, f6, f7, f8, f9, f10, f11, f12⟩ := h.doK hk hB9 (x := 0) (k1 := k) (n := zA S 204 x0) ht hx0 ht0 d1 d3 d4 d5 ha ha' hj ho7 hjm h705 hs' hkd t50 (WR.none0 h.mvAr) (by omega) (fun p l' _ _ => by rw [z0, Int32.add_zero]) h.mvAr h.zs0 h.pfS n4 (Or.inl hx0) ⟨by omega, tn.2⟩ (Int.le_refl _) q' hnb (h.nn.2.1 _ (by omega)) (fun T H1 V1 A2 O2 => h.hbkN hx0 (show a < 19 by omega) (show l < 12 by omega) ha' d3 rfl H1 V1 A2 O2) h.kx (fun _ _ => rfl) (fun _ _ => rfl) (fun j _ => by rw [z0, Int32.add_zero]) rfl (fun p l' _ _ => by rw [if_neg (fun r => r.2.1 rfl)]) (fun _ _ => rfl) (fun _ _ => rfl)
    refine ⟨T, u, k', ?_, ?_, f3, f5, f6, f7, f8, f9, ?_, f10⟩
    · have q2 : zA S 1004 t ≤ cAt S 2 (nI a) (nI l) := by rw [n4, a2]; exact q
      have r := r53 S hkd
      rw [f1] at r
      simp only [f_X11_doStationInSlot, r_mrd, r_mbo, d1, ite_f, h6, ↓reduceIte, r_mopt, d3, ha', b1, if_pos q2, r]
      rfl
    · rw [ds, k_144a (show t < 60 by omega) ha (show l < 12 by omega) w48 (by rw [w51, w20]; exact q), f2]
    · have cu := cT_up (S := S) (T := T) (t := t) (d := 2) (by
        unfold ctb
        rw [f11, if_pos rfl, h5, f12, h6]; rfl) (zN S 10) (fun p _ hn => by
        unfold ctb
        rw [f11, if_neg hn, f12])
      rw [if_pos ht] at cu
      omega
  · have hlt : zC S 2 (12 * a + l) < zA S 204 x0 := Int32.not_le.mp q
    have hlt' := Int32.lt_iff_toInt_lt.mp hlt
    obtain ⟨S1, U, v1, u0, e1, e2, e3, e4, e5, s1, s2, kx, xn0, v19, v20, v21, vI, vB, c1, fx0, c2⟩ := h.kLess (by omega) ha d4 hx0 ht0 ha' d3 hlt
    have e1' := e1
    obtain ⟨wA, wO, wL, wP, wC, wN, wc, w0, w1, w5, k1, wk, wm, wv⟩ := e1'
    have hsub : ∀ y, y ∈ cutL S a l (some x0) 9 → y ∈ hL S := fun y hy => by
      rcases cutL_m 9 y hy with e | e
      · cases e; exact hx0
      · exact e.1
    have c10 : zC S1 0 (12 * a + l) = zC S 2 (12 * a + l) := by
      rw [w0, dd_p (by omega), if_pos rfl, Int32.add_comm, Int32.sub_add_cancel]
    have hx0L : x0 ∈ cutL S a l (some x0) 9 := by
      obtain ⟨tl, e9⟩ := cutL_hd (S := S) (s := a) (l := l) (x0 := x0) 9
      rw [e9]; exact List.mem_cons_self ..
    have pf := h.pfC e5 hsub tt.1
    have hZ := ZS.cut e1 e3 e4 e5
    have hxZ : x0 ∈ hL (drS U) ∨ zA (drS U) 204 x0 = 0 := by
      by_cases z : zC S 2 (12 * a + l) = 0
      · right; rw [drS_A, e5.2.1, fx0, z]
      · left
        rw [hZ.2.2.2.2.2.2.2.2.1, List.mem_filter]
        refine ⟨hx0, ?_⟩
        rw [fx0, decide_eq_true_iff]
        exact (pos_0 tt.1).1.mpr z
    have hbk0 : ∀ T : Ss, hL T = ((hL S).filter fun y => decide (0 < (if y = x0 then (0 : Int32) else fcut (zA S 204) (cutL S a l (some x0) 9) (zC S 2 (12 * a + l)) y))) → (∀ y, y ∈ hL S → zA T 204 y = if y = x0 then 0 else fcut (zA S 204) (cutL S a l (some x0) 9) (zC S 2 (12 * a + l)) y) → zA T 202 = zA S 202 → zO T 203 = zO S 203 → sz (hL T) (fun y => (hpc T a l y).toInt) + (zC S 2 (12 * a + l)).toInt ≤ (zC S1 0 (12 * a + l)).toInt := fun T H1 V1 A2 O2 => by
      have nd := cutL_nd (s := a) (l := l) (f0 := some x0) h.ho.1 9
      have pe := h.pfE pf hx0 ht0 (Or.inl rfl : (2 : Int32) = 2 ∨ (2 : Int32) = 3)
      have r1 := hbk2 (T := T) (S := S) (p := fun y => if y = x0 then 0 else fcut (zA S 204) (cutL S a l (some x0) 9) (zC S 2 (12 * a + l)) y) (s := a) (l := l) h.ho.1 H1 (fun y hy _ => V1 y hy) A2 O2 (cutL_all h (f0 := some x0)) (fun y hy => (tI_of (pe.1 y (hsub y hy)).1).1)
      have r2 := cut_s (pc := zA S 204) (cutL S a l (some x0) 9) (zC S 2 (12 * a + l)) (fun y hy => (h.co.2.2.2.2.1 y (hsub y hy)).2) tt.1 nd
      have r3 := cut_b (pc := zA S 204) (cutL S a l (some x0) 9) (zC S 2 (12 * a + l)) (fun y hy => (h.co.2.2.2.2.1 y (hsub y hy)).2) tt.1
      have r4 := sz_one (f := fun y => (fcut (zA S 204) (cutL S a l (some x0) 9) (zC S 2 (12 * a + l)) y).toInt) (g := fun y => (if y = x0 then (0 : Int32) else fcut (zA S 204) (cutL S a l (some x0) 9) (zC S 2 (12 * a + l)) y).toInt) nd hx0L fun y _ hne => by rw [if_neg hne]
      rw [if_pos rfl, e0, fx0] at r4
      rw [c10]
      omega
    obtain ⟨T, u, k', f1, f2, f3, f4, f5, f6, f7, f8, f9, f10, f11, f12⟩ := h.doK hk hB9 (x := zC S 2 (12 * a + l) - zC S 0 (12 * a + l)) (k1 := k1) (n := zC S 2 (12 * a + l)) ht hx0 ht0 d1 d3 d4 d5 ha ha' hj ho7 hjm h705 hs' hkd t50 e1 wk wv wm hZ pf c1 hxZ ⟨tt.1, by omega⟩ (by omega) (Int.le_refl _) (by rw [c10]; exact Int.le_refl _) (by rw [c10]; exact h.nn.2.2 _ (by omega)) hbk0 kx (fun y hn => if_neg hn) (fun s hn => if_neg hn) (fun j _ => by rw [v19, dd_p (by omega)]) v20 (fun p l' hp hl' => by
      rw [v21]
      by_cases e : 12 * p + l' = 12 * a + l
      · rw [if_pos e, if_pos ⟨by omega, xn0, by omega⟩]
      · rw [if_neg e, if_neg (fun r => e (by rw [r.1, r.2.2]))]) (fun f hf => vI f hf) vB
    refine ⟨T, u, k', ?_, ?_, f3, f5, f6, f7, f8, f9, ?_, f10⟩
    · have q2 : ¬ zA S 1004 t ≤ cAt S 2 (nI a) (nI l) := by rw [n4, a2]; exact q
      have r := r53 (drS U) (by rw [drS_A, e4.1 1001 (by decide), wA 1001 (by decide), hkd])
      rw [f1] at r
      simp only [f_X11_doStationInSlot, r_mrd, r_mbo, d1, ite_f, h6, ↓reduceIte, r_mopt, d3, ha', b1, if_neg q2, r_mb, e2, bnd_s, r]
      rfl
    · rw [ds, k_144b (w := w) (show t < 60 by omega) ha (show l < 12 by omega) w48 (by rw [w51, w20]; exact q) (by rw [w20]; exact s1) s2, f2]
    · have cu := cT_up (S := S) (T := T) (t := t) (d := 2) (by
        unfold ctb
        rw [f11, if_pos rfl, h5, f12, h6]; rfl) (zN S 10) (fun p hp hn => by
        unfold ctb
        have cc := h.cutT e5 hsub p hp
        rw [f11, if_neg hn, f12, drS_A]
        by_cases e : zA S 1005 p = 2
        · rw [if_pos e, if_pos (cc.mpr e)]
        · rw [if_neg e, if_neg (fun r => e (cc.mp r))])
      rw [if_pos ht] at cu
      omega
/-- a station in a slot is done -/
theorem Rel.station (h : Rel B k S w) (hk : k + 2 ≤ 1024) (hB9 : B + 99 ≤ 8000000) {t : Nat} (ht : t < zN S 10) (h5 : zA S 1005 t = 1) (hst : ¬ (zA S 1001 t = 0 ∧ zA S 1006 t = 0)) : ∃ T u k', (f_X11_doStationInSlot t).1 S = some ((), T) ∧ g_X12_does (nI t) w = some ((), u) ∧ Rel (B + 99) k' T u ∧ BU S T w u k k' := by
  obtain ⟨-, -, -, -, -, -, -, x0, l, d1, d2, d3, d4, d5, d6, d7, d8⟩ := h.ta.2.2.2 t ht
  obtain ⟨-, -, -, b6⟩ := d7 (Or.inr h5)
  have up : ∀ {T : Ss} {u : MS} {k' : Nat}, Rel B k' T u → Rel (B + 99) k' T u := fun {T u k'} R => by
    have nn : g_nn (B + 99) T := by
      obtain ⟨n1, n2, n3⟩ := R.nn
      refine ⟨hB9, fun j hj => ?_, fun j hj => ?_⟩
      · have := tI_of (n2 j hj); exact ⟨by omega, by omega⟩
      · have := tI_of (n3 j hj); exact ⟨by omega, by omega⟩
    exact ⟨R.sl, R.it, R.ba, R.sc, R.lo, R.be, R.no, R.ca, R.aw, R.or, R.li, R.bk, nn, R.tr, R.db, R.mv, R.ho, R.hs, R.hm, R.ta, R.ap, R.ro, R.st, R.bx⟩
  rcases d8 with e | e | e
  · have h6 : zA S 1006 t = 1 := b6.resolve_left fun r => hst ⟨e.1, r⟩
    exact h.doM hk hB9 ht h5 (Or.inl e.1) h6
  · rcases b6 with r | r
    · obtain ⟨T, u, k', f1, f2, f3, f4⟩ := h.doL hk ht h5 e.1 r
      exact ⟨T, u, k', f1, f2, up f3, f4⟩
    · exact h.doM hk hB9 ht h5 (Or.inr e.1) r
  · exact h.doP hk hB9 ht h5 e.1
end
