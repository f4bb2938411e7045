/-! the reference's station, cut -/
section
variable {w : MS}
noncomputable def dsA (w : MS) (x1 x54 : Int32) : GM Unit := gix x1 (mL 49) <| gbo ((12 * (mA w 49 x1.toNatClampNeg)) + x54 : Int32) fun x167 => gix x167 (mL 20) <| gix x1 (mL 51) <| gix x167 (mL 20) <| gst (mSA 20 x167.toNatClampNeg ((mA w 20 x167.toNatClampNeg) + (mA w 51 x1.toNatClampNeg))) <| gb (g_X12_moves x1 3) fun u176 => gret ()
noncomputable def dsB (w : MS) (x1 x54 : Int32) : GM Unit := gix x1 (mL 51) <| gix x1 (mL 48) <| gix ((12 * (mA w 48 x1.toNatClampNeg)) + x54) (mL 20) <| gb (g_X12_less (mA w 51 x1.toNatClampNeg) (mA w 20 ((12 * (mA w 48 x1.toNatClampNeg)) + x54).toNatClampNeg)) fun x141 => grd fun w142 => gix x1 (mL 48) <| gbo ((12 * (mA w142 48 x1.toNatClampNeg)) + x54 : Int32) fun x147 => gix x147 (mL 20) <| gix x147 (mL 20) <| gst (mSA 20 x147.toNatClampNeg ((mA w142 20 x147.toNatClampNeg) - x141)) <| grd fun w151 => gix x1 (mL 49) <| gbo ((12 * (mA w151 49 x1.toNatClampNeg)) + x54 : Int32) fun x156 => gix x156 (mL 20) <| gix x156 (mL 20) <| gst (mSA 20 x156.toNatClampNeg ((mA w151 20 x156.toNatClampNeg) + x141)) <| gb (g_X12_moves x1 4) fun u162 => gret ()
theorem ds_eq (x1 : Int32) : g_X12_does x1 = grd fun w => gix x1 (mL 47) <| gbo (mA w 47 x1.toNatClampNeg : Int32) fun x54 => gix x1 (mL 46) <| if (mA w 46 x1.toNatClampNeg) = 0 then dsA w x1 x54 else gix x1 (mL 46) <| if (mA w 46 x1.toNatClampNeg) = 1 then gix x1 (mL 54) <| if (mA w 54 x1.toNatClampNeg) = 0 then g_X12_does_144 x1 x54 else dsB w x1 x54 else g_X12_does_144 x1 x54 := rfl
theorem ds_0 {t : Nat} (ht : t < 60) (h : mA w 46 t = 0) : g_X12_does (nI t) w = dsA w (nI t) (mA w 47 t) w := by
  have ct := nI_clamp (show t < 2 ^ 31 by omega)
  rw [ds_eq, r_grd, r_gnI (show t < mL 47 from ht) (show mL 47 < 2 ^ 31 by decide), r_gbo, ct, r_gnI (show t < mL 46 from ht) (show mL 46 < 2 ^ 31 by decide), kif, if_pos h]
theorem ds_1 {t : Nat} (ht : t < 60) (h : mA w 46 t = 1) (h2 : ¬ mA w 54 t = 0) : g_X12_does (nI t) w = dsB w (nI t) (mA w 47 t) w := by
  have ct := nI_clamp (show t < 2 ^ 31 by omega)
  have n0 : ¬ mA w 46 t = 0 := by rw [h]; decide
  rw [ds_eq, r_grd, r_gnI (show t < mL 47 from ht) (show mL 47 < 2 ^ 31 by decide), r_gbo, ct, r_gnI (show t < mL 46 from ht) (show mL 46 < 2 ^ 31 by decide), kif, if_neg n0, r_gnI (show t < mL 46 from ht) (show mL 46 < 2 ^ 31 by decide), kif, if_pos h, r_gnI (show t < mL 54 from ht) (show mL 54 < 2 ^ 31 by decide), kif, if_neg h2]
theorem ds_2 {t : Nat} (ht : t < 60) (h : mA w 46 t = 2 ∨ (mA w 46 t = 1 ∧ mA w 54 t = 0)) : g_X12_does (nI t) w = g_X12_does_144 (nI t) (mA w 47 t) w := by
  have ct := nI_clamp (show t < 2 ^ 31 by omega)
  have n0 : ¬ mA w 46 t = 0 := by rcases h with h | h; rw [h]; decide; rw [h.1]; decide
  rw [ds_eq, r_grd, r_gnI (show t < mL 47 from ht) (show mL 47 < 2 ^ 31 by decide), r_gbo, ct, r_gnI (show t < mL 46 from ht) (show mL 46 < 2 ^ 31 by decide), kif, if_neg n0, r_gnI (show t < mL 46 from ht) (show mL 46 < 2 ^ 31 by decide), kif]
  rcases h with h | h
  · rw [if_neg (by rw [h]; decide)]
  · rw [if_pos h.1, r_gnI (show t < mL 54 from ht) (show mL 54 < 2 ^ 31 by decide), kif, if_pos h.2]
end
/-! PUTs and REFILLs are done -/
section
variable {B k : Nat} {S T S1 Z A T1 : Ss} {w v u w0 : MS}
def ctb (S : Ss) (t : Nat) : Nat := if zA S 1005 t = 2 then 2 else if zA S 1006 t = 1 then 1 else 0
theorem cT_s (S : Ss) (n : Nat) : cT S (n + 1) = cT S n + ctb S n := rfl
theorem cT_up {t d : Nat} (h1 : ctb T t = ctb S t + d) : ∀ n, (∀ q, q < n → q ≠ t → ctb T q = ctb S q) → cT T n = cT S n + if t < n then d else 0
  | 0, _ => by rw [if_neg (Nat.not_lt_zero _)]; rfl
  | n + 1, h => by
    have ih := cT_up h1 n fun q hq hn => h q (by omega) hn
    rw [cT_s, cT_s, ih]
    by_cases e : n = t
    · subst e
      rw [if_neg (Nat.lt_irrefl _), if_pos (Nat.lt_succ_self _), h1]; omega
    · rw [h n (by omega) e]
      by_cases q : t < n
      · rw [if_pos q, if_pos (by omega)]; omega
      · rw [if_neg q, if_neg (by omega)]; omega
/-- what an act may use -/
def BU (S T : Ss) (w v : MS) (k k' : Nat) : Prop := zP T = zP S ∧ (∀ f, f ≠ 60 ∧ f ≠ 61 ∧ f ≠ 62 → zN T f = zN S f) ∧ cst S T ∧ zA T 705 = zA S 705 ∧ (∀ q, mA v 57 q = mA w 57 q ∧ zA T 803 q = zA S 803 q) ∧ k' + cT S (zN S 10) ≤ k + cT T (zN S 10) ∧ mI v 0 = mI w 0
/-- what is held at a place, when one holding ends -/
theorem Rel.hbkN (h : Rel B k S w) {x0 a l : Nat} {n : Int32} (hx0 : x0 ∈ hL S) (ha : a < 19) (hl : l < 12) (hp : zA S 202 x0 = nI a) (hlo : zO S 203 x0 = some l) (hn : zA S 204 x0 = n) (H1 : hL T = (hL S).filter fun y => decide (0 < (if y = x0 then (0 : Int32) else zA S 204 y))) (V1 : ∀ y, y ∈ hL S → zA T 204 y = if y = x0 then 0 else zA S 204 y) (hA2 : zA T 202 = zA S 202) (hO2 : zO T 203 = zO S 203) : sz (hL T) (fun y => (hpc T a l y).toInt) + n.toInt ≤ (zC S 0 (12 * a + l)).toInt := by
  have e0 : (0 : Int32).toInt = 0 := rfl
  have hv : ∀ y, y ∈ hL S → tI (zA S 204 y) 1 99 := fun y hy => (h.ho.2.1 y hy).2.1
  obtain ⟨L, hL1⟩ : ∃ L, L = (hL S).filter fun y => decide (zA S 202 y = nI a ∧ zO S 203 y = some l) := ⟨_, rfl⟩
  have Lm : ∀ y, y ∈ L ↔ y ∈ hL S ∧ zA S 202 y = nI a ∧ zO S 203 y = some l := fun y => by
    rw [hL1, List.mem_filter, decide_eq_true_iff]
  have hx0L : x0 ∈ L := (Lm x0).mpr ⟨hx0, hp, hlo⟩
  have q1 := hbk2 (T := T) (S := S) (p := fun y => if y = x0 then 0 else zA S 204 y) (s := a) (l := l) (L := L) h.ho.1 H1 (fun y hy _ => V1 y hy) hA2 hO2 (fun y hy e1 e2 => (Lm y).mpr ⟨hy, e1, e2⟩) (fun y hy => by
    split
    · exact Int.le_refl _
    · have := tI_of (hv y ((Lm y).mp hy).1); omega)
  have nd : L.Nodup := by rw [hL1]; exact h.ho.1.sublist List.filter_sublist
  rw [sz_erase L hx0L] at q1
  rw [if_pos rfl, e0, Int.zero_add] at q1
  have q2 : sz (L.erase x0) (fun y => (if y = x0 then (0 : Int32) else zA S 204 y).toInt) = sz (L.erase x0) (fun y => (zA S 204 y).toInt) := sz_cg _ fun y hy => by
    rw [if_neg (nd.mem_erase_iff.mp hy).1]
  have q3 := sz_erase (z := fun y => (zA S 204 y).toInt) L hx0L
  have q4 : sz L (fun y => (zA S 204 y).toInt) = sz (hL S) (fun y => (hpc S a l y).toInt) := by
    rw [hL1, sz_fil]
    refine sz_cg _ fun y _ => ?_
    unfold hpc
    by_cases e : zA S 202 y = nI a ∧ zO S 203 y = some l
    · rw [if_pos (decide_eq_true e), if_pos e]
    · rw [if_neg (by simpa using e), if_neg e, e0]
  have q5 := (h.hs.1 a l ha hl).2
  rw [q4] at q3
  rw [hn] at q3
  omega
theorem Rel.hn1 (h : Rel B k S w) {x0 a l : Nat} (hx0 : x0 ∈ hL S) (ha : a < 19) (hl : l < 12) (hp : zA S 202 x0 = nI a) (hlo : zO S 203 x0 = some l) : (zA S 204 x0).toInt ≤ (zC S 0 (12 * a + l)).toInt := by
  have q5 := (h.hs.1 a l ha hl).2
  have q1 := sz_mem (z := fun y => (hpc S a l y).toInt) (hL S) (fun y hy => by
    have := tI_of (h.ho.2.1 y hy).2.1
    unfold hpc; split
    · omega
    · exact Int.le_refl _) hx0
  have e : hpc S a l x0 = zA S 204 x0 := if_pos ⟨hp, hlo⟩
  rw [e] at q1
  omega
def gbnU (o : Option (Unit × Ss)) : Option (Unit × Ss) := bnd o fun _ S1 => some ((), S1)
def gbnV (o : Option (Unit × MS)) : Option (Unit × MS) := gbn o fun _ w1 => some ((), w1)
theorem Rel.doM (h : Rel B k S w) (hk : k + 2 ≤ 1024) (hB9 : B + 99 ≤ 8000000) {t : Nat} (ht : t < zN S 10) (h5 : zA S 1005 t = 1) (hkd : zA S 1001 t = 0 ∨ zA S 1001 t = 1) (h6 : zA S 1006 t = 1) : ∃ T u k', (f_X11_doStationInSlot t).1 S = some ((), T) ∧ g_X12_does (nI t) w = some ((), u) ∧ Rel (B + 99) k' T u ∧ BU S T w u k k' := by
  have h12 := h.lo.1
  have h60 := h.ta.1
  obtain ⟨-, t46, t49, t51, t52, t4b, -, x0, l, d1, d2, d3, d4, d5, d6, d7, d8⟩ := h.ta.2.2.2 t ht
  obtain ⟨hx0, ht0, t54, -⟩ := d7 (Or.inr h5)
  obtain ⟨b1, -, -, -, b5, b6, -⟩ := h.lo.2.2.2.1 l d4
  have n4 : zA S 1004 t = zA S 204 x0 := ((h.ho.2.1 x0 hx0).2.2.2.2.2 t ht0).2.2.2
  obtain ⟨n, hn⟩ : ∃ n, n = zA S 204 x0 := ⟨_, rfl⟩
  have tn : tI n 1 99 := by rw [hn]; exact (h.ho.2.1 x0 hx0).2.1
  have tn' := tI_of tn
  obtain ⟨a, s, ha, hs, ha', hs', hkd2⟩ : ∃ a s, a < 19 ∧ s < 18 ∧ zA S 202 x0 = nI a ∧ zA S 1003 t = nI s ∧ ((zA S 1001 t = 0 ∧ a = 18) ∨ (zA S 1001 t = 1 ∧ a < 18)) := by
    rcases d8 with ⟨e1, -, -, e2, -, s, e3, e4⟩ | ⟨e1, -, -, ⟨p, e2, e2'⟩, -, s, e3, e4⟩ | e
    · exact ⟨18, s, by decide, e3, e2, e4, Or.inl ⟨e1, rfl⟩⟩
    · exact ⟨p, s, by omega, e3, e2', e4, Or.inr ⟨e1, e2⟩⟩
    · rcases hkd with q | q
      · rw [q] at e; exact absurd e.1 (by decide)
      · rw [q] at e; exact absurd e.1 (by decide)
  have hnb := h.hn1 hx0 ha (show l < 12 by omega) ha' d3
  rw [← hn] at hnb
  have W0 := WR.none0 (S := S) (s := s) (l := l) h.mvAr
  obtain ⟨A, T1, e2, e3, e4, e5, e6, e7, e8, f0, f1, -⟩ := e_finish0 (S := S) (t := t) (x0 := x0) (l := l) (a := a) (b := s) (k1 := k) (n := n) h.co d1 d3 ha' hs' (by rw [n4, hn]) (h.hwf hx0) (Or.inl hx0) b1 b5 b6 (by omega) h.mvAr (by omega) (by omega) (by omega)
  obtain ⟨rr, hrr⟩ : ∃ rr, rr = rl S (some a) l n := ⟨_, rfl⟩
  have rr18 : a = 18 → rl S (some a) l n = n := fun e => by
    show (if zC S 2 (12 * a + l) < n then zC S 2 (12 * a + l) else n) = n
    rw [if_neg]
    intro q
    have q := Int32.lt_iff_toInt_lt.mp q
    rw [h.tr.2 (12 * a + l) (by omega) (by omega)] at q
    omega
  obtain ⟨c, hc⟩ : ∃ c : Int32, c = if zA S 1001 t = 0 then 3 else 4 := ⟨_, rfl⟩
  obtain ⟨T, hT⟩ : ∃ T, T = pA 1118 0 (zA S 1118 0 + c) (pA 1005 t 2 (drS T1)) := ⟨_, rfl⟩
  have run : (f_X11_doStationInSlot t).1 S = some ((), T) := by
    have i10' : ¬ (1 : Int32) = 0 := by decide
    have e0 : (f_X11_doStationInSlot t).1 S = gbnU ((f_X11_finish t).1 S) := by
      rcases hkd2 with ⟨q, -⟩ | ⟨q, -⟩
      · have q1 : ¬ (0 : Int32) = 1 := by decide
        simp only [f_X11_doStationInSlot, f_X11_doStationInSlot_53, f_X11_doStationInSlot_76, r_mrd, r_mbo, ite_f, h6, i10', q, q1, ↓reduceIte]
        rfl
      · simp only [f_X11_doStationInSlot, f_X11_doStationInSlot_53, f_X11_doStationInSlot_76, r_mrd, r_mbo, ite_f, h6, i10', q, ↓reduceIte]
        rfl
    rw [e0, hT, hc]
    rcases hkd2 with ⟨q, -⟩ | ⟨q, -⟩
    · rw [f0 q, if_pos q]; rfl
    · rw [f1 q, if_neg (by rw [q]; decide)]; rfl
  -- the reference
  have e12 : ∀ p, (12 : Int32) * nI p + nI l = nI (12 * p + l) := fun p => by rw [show (12 : Int32) = nI 12 from rfl, pk_mul, nI_add]
  have w47 : mA w 47 t = nI l := d5
  have w48 : mA w 48 t = nI a := by rw [d6, ha']
  have w49 : mA w 49 t = nI s := by rw [t49, hs']
  have w51 : mA w 51 t = n := by rw [t51, n4, hn]
  have j46 : t < mL 46 := show t < 60 by omega
  have j47 : t < mL 47 := show t < 60 by omega
  have j48 : t < mL 48 := show t < 60 by omega
  have j49 : t < mL 49 := show t < 60 by omega
  have j51 : t < mL 51 := show t < 60 by omega
  have j54 : t < mL 54 := show t < 60 by omega
  have ct := nI_clamp (show t < 2 ^ 31 by omega)
  have js : 12 * s + l < mL 20 := show 12 * s + l < 216 by omega
  have cs := nI_clamp (show 12 * s + l < 2 ^ 31 by omega)
  have ca := nI_clamp (show 12 * a + l < 2 ^ 31 by omega)
  obtain ⟨v0, r1, r2, r3⟩ : ∃ v0, g_X12_does (nI t) w = gbnV (g_X12_moves (nI t) c v0) ∧ (∀ j, j < 216 → mA v0 20 j = mA w 20 j + dd (some a) (some s) l rr j) ∧ (∀ f, f ≠ 20 → mA v0 f = mA w f) ∧ mI v0 = mI w := by
    rcases hkd2 with ⟨q, qa⟩ | ⟨q, qa⟩
    · have q' : mA w 46 t = 0 := by rw [t46, q]
      have hc3 : c = 3 := by rw [hc, if_pos q]
      refine ⟨mSA 20 (12 * s + l) (mA w 20 (12 * s + l) + n) w, ?_, fun j hj => ?_, fun f hf => by rw [fBA hf], rfl⟩
      · rw [hc3]
        rw [ds_0 (show t < 60 by omega) q', w47]
        simp only [dsA, r_grd, r_gbo, r_gst, r_gnI j49 (show mL 49 < 2 ^ 31 by decide), r_gnI j51 (show mL 51 < 2 ^ 31 by decide), ct, w49, w51, e12, r_gnI js (show mL 20 < 2 ^ 31 by decide), cs, r_gb]
        rfl
      · rw [sBA, dd_s, hrr, rr18 qa, if_neg (show ¬ j = 12 * a + l by omega), Int32.zero_add]
        by_cases e : j = 12 * s + l
        · rw [if_pos e, if_pos e, e]
        · rw [if_neg e, if_neg e, Int32.add_zero]
    · have q' : mA w 46 t = 1 := by rw [t46, q]
      have w54 : mA w 54 t = 1 := by rw [t54, h6]
      have hc4 : c = 4 := by rw [hc, if_neg (by rw [q]; decide)]
      have i10' : ¬ (1 : Int32) = 0 := by decide
      have ja : 12 * a + l < mL 20 := show 12 * a + l < 216 by omega
      have w20 : mA w 20 (12 * a + l) = zC S 2 (12 * a + l) := (h.tr.1 _ ja).symm
      have erl : rr = mn n (zC S 2 (12 * a + l)) := hrr
      obtain ⟨v00, hv00⟩ : ∃ v00, v00 = mSA 20 (12 * a + l) (zC S 2 (12 * a + l) - rr) w := ⟨_, rfl⟩
      have v00A : ∀ f, f ≠ 20 → mA v00 f = mA w f := fun f hf => by rw [hv00, fBA hf]
      refine ⟨mSA 20 (12 * s + l) (mA v00 20 (12 * s + l) + rr) v00, ?_, fun j hj => ?_, fun f hf => by rw [fBA hf, v00A f hf], by rw [hv00]; rfl⟩
      · rw [hc4]
        rw [ds_1 (show t < 60 by omega) q' (by rw [w54]; decide), w47]
        simp only [dsB, r_grd, r_gbo, r_gst, r_gnI j48 (show mL 48 < 2 ^ 31 by decide), r_gnI j49 (show mL 49 < 2 ^ 31 by decide), r_gnI j51 (show mL 51 < 2 ^ 31 by decide), ct, w48, w51, e12, r_gnI js (show mL 20 < 2 ^ 31 by decide), r_gnI ja (show mL 20 < 2 ^ 31 by decide), cs, ca, r_gb, k_less, w20, mn_less, ← erl, gbn_s, ← hv00, v00A 49 (by decide), w49]
        rfl
      · have v20' : ∀ j, mA v00 20 j = if j = 12 * a + l then zC S 2 (12 * a + l) - rr else mA w 20 j := fun j => by rw [hv00, sBA]
        rw [sBA, dd_s, v20', v20']
        by_cases e1 : j = 12 * s + l
        · rw [if_pos e1, if_pos e1]
          by_cases e2 : 12 * s + l = 12 * a + l
          · rw [if_pos e2, if_pos (by omega), Int32.add_left_neg, Int32.add_zero, Int32.sub_add_cancel, ← w20]
            congr 1; omega
          · rw [if_neg e2, if_neg (by omega), Int32.zero_add, e1]
        · rw [if_neg e1, if_neg e1]
          by_cases e2 : j = 12 * a + l
          · rw [if_pos e2, if_pos e2, Int32.add_zero, e2, w20, Int32.sub_eq_add_neg]
          · rw [if_neg e2, if_neg e2, Int32.add_zero, Int32.add_zero]
  have kx0 : KX S v0 (zA S 204) (zA S 1005) (zA S 1004) := h.kx.wr (fun f hf => r3.1 f (by omega)) (by rw [r3.2])
  obtain ⟨u, u1, u2, u3, u4, u5, u6, u7⟩ := h.kMoves (x0 := x0) (t := t) (a := a) (b := s) (l := l) (n := n) kx0 (r3.1 53 (by decide)) hx0 ht0 (by rw [r3.1 48 (by decide)]; exact w48) (by rw [r3.1 47 (by decide)]; exact w47) (by rw [r3.1 49 (by decide)]; exact w49) (by rw [r3.1 51 (by decide)]; exact w51) (by omega) (by omega) (by omega) c
  have z0 : ∀ j, dd none (some s) l 0 j = 0 := fun j => dd_z _ _ _ _
  have nz : ¬ n = 0 := fun e => by rw [e] at tn'; exact absurd tn'.1 (by decide)
  have TA : ∀ f, f ≠ 1005 ∧ f ≠ 1118 ∧ f ≠ 403 → zA T f = zA T1 f := fun f hf => by rw [hT, fAA hf.2.1, fAA hf.1, drS_A]
  have T5 : ∀ q, zA T 1005 q = if q = t then 2 else zA T1 1005 q := fun q => by rw [hT, fAA (by decide), sAA, drS_A]
  have TAS : ∀ f, f ≠ 7 ∧ f ≠ 204 ∧ f ≠ 402 ∧ f ≠ 403 ∧ f ≠ 1004 ∧ f ≠ 1005 ∧ f ≠ 1118 → zA T f = zA S f := fun f hf => by
    rw [TA f ⟨hf.2.2.2.2.2.1, hf.2.2.2.2.2.2, hf.2.2.2.1⟩, e3.1 f ⟨hf.2.1, hf.2.2.1, hf.2.2.2.2.1, hf.2.2.2.2.2.1⟩, e2.1 f hf.1]
  have T403 : zA T 403 = zA S 403 := by rw [hT, fAA (by decide), fAA (by decide), drS_A, e3.1 403 (by decide), e2.1 403 (by decide)]
  have TO : zO T = zO S := by
    have e : zO T = zO T1 := by rw [hT]; rfl
    rw [e, e3.2.1, e2.2.1]
  have TLS : ∀ f, f ≠ 1107 → zL T f = zL S f := fun f hf => by
    have e : zL T = zL (drS T1) := by rw [hT]; rfl
    rw [e, drS_SF.2.2.1 f hf, e4, e2.2.2.1]
  have TN : ∀ f, f ≠ 60 ∧ f ≠ 61 ∧ f ≠ 62 → zN T f = zN S f := fun f hf => by
    have e : zN T = zN T1 := by rw [hT]; rfl
    rw [e, e3.2.2.2.2.2.2, e2.2.2.2.2.2.1 f hf]
  have hbk : (∀ j, zC T 0 j = zC S 0 j + (dd none (some s) l 0 j + dd (some a) (some s) l n j)) → hL T = ((hL S).filter fun y => decide (0 < (if y = x0 then (0 : Int32) else zA S 204 y))) → (∀ y, y ∈ hL S → zA T 204 y = if y = x0 then 0 else zA S 204 y) → ∀ a' l', a' < 19 → l' < 12 → sz (hL T) (fun y => (hpc T a' l' y).toInt) ≤ (zC T 0 (12 * a' + l')).toInt := fun c0 H1 V1 a' l' ha1 hl' => by
    have B8 := h.nn.1
    by_cases e : a' = a ∧ l' = l
    · rw [e.1, e.2]
      have q := h.hbkN (T := T) (n := n) hx0 ha (show l < 12 by omega) ha' d3 hn.symm H1 V1 (TAS 202 (by decide)) (by rw [TO])
      have tb := tI_of (h.nn.2.1 (12 * a + l) (by omega))
      rw [c0, z0, Int32.zero_add, dd_s, if_pos rfl]
      by_cases e2 : 12 * a + l = 12 * s + l
      · rw [if_pos e2, Int32.add_left_neg, Int32.add_zero]; omega
      · rw [if_neg e2, Int32.add_zero, ← Int32.sub_eq_add_neg, sub_toInt (by omega) (by omega)]; omega
    · refine h.hbk3 (p := fun y => if y = x0 then 0 else zA S 204 y) (h.pfE h.pfS hx0 ht0 (Or.inl rfl)).1 H1 (fun y hy _ => V1 y hy) (TAS 202 (by decide)) TO ha1 hl' ?_
      have tb := tI_of (h.nn.2.1 (12 * a' + l') (by omega))
      rw [c0, z0, Int32.zero_add, dd_s, if_neg (show ¬ 12 * a' + l' = 12 * a + l by omega), Int32.zero_add]
      by_cases e2 : 12 * a' + l' = 12 * s + l
      · rw [if_pos e2, add_toInt (by omega) (by omega)]; omega
      · rw [if_neg e2, Int32.add_zero]; exact Int.le_refl _
  have hli : hL T = ((hL S).filter fun y => decide (0 < (if y = x0 then (0 : Int32) else zA S 204 y))) → (∀ y, y ∈ hL S → zA T 204 y = if y = x0 then 0 else zA S 204 y) → CH T → g_li T u := fun H1 V1 C1 => by
    exact h.liF (p := fun y => if y = x0 then 0 else zA S 204 y) (h.pfE h.pfS hx0 ht0 (Or.inl rfl)).1 H1 (fun y hy _ => V1 y hy) (fun f hf => by
      rcases hf with e | e
      · rw [e]; exact TAS 401 (by decide)
      · rw [e]; exact T403) TO (TLS 704 (by decide)) ⟨TN 7 (by decide), TN 4 (by decide)⟩ (fun f hf => by rw [u7 f (by omega), r3.1 f (by omega)]) C1
  have hst : (∀ j, zC T 0 j = zC S 0 j + (dd none (some s) l 0 j + dd (some a) (some s) l n j)) → g_st T u := fun c0 => by
    obtain ⟨s1, s2⟩ := h.st
    have e : ∀ o l', zC T 0 (12 * (20 + o) + l') = zC S 0 (12 * (20 + o) + l') := fun o l' => by
      rw [c0, z0, Int32.zero_add, dd_s, if_neg (show ¬ 12 * (20 + o) + l' = 12 * a + l by omega), if_neg (show ¬ 12 * (20 + o) + l' = 12 * s + l by omega), Int32.add_zero, Int32.add_zero]
    unfold g_st
    simp only [e]
    rw [TN 7 (by decide), TAS 705 (by decide), TN 5 (by decide), TLS 704 (by decide), T403]
    exact ⟨s1, s2⟩
  obtain ⟨k', k1, k2⟩ := h.doG (T := T) (u := u) (x := 0) (n := n) (s := s) (k1 := k) h.pfS hx0 ht0 d4 hs ha (show s < 28 by omega) (Or.inl hs) W0 (by omega) (fun p l' _ _ => by rw [z0, Int32.add_zero]) hk h.zs0 e2 ⟨by omega, tn'.2⟩ hnb (h.nn.2.1 _ (by omega)) rr18 hB9 e3 e4 e5 e6 e7 e8 TA T5 (by rw [hT]; rfl) (by rw [hT]; rfl) (by rw [hT]; rfl) (by rw [hT]; rfl) (by rw [hT]; rfl) u2 (fun j hj => by rw [u3, r3.1 19 (by decide), z0, Int32.zero_add]) (fun j hj => by rw [u7 20 (by decide), r2 j hj, hrr]) (fun p l' hp hl' => by
    rw [u4 p l' hp hl', r3.1 21 (by decide)]
    by_cases e : l' = l ∧ ¬ n = 0 ∧ (p = a ∨ p = s)
    · rw [if_pos e, if_pos ⟨e.1, Or.inr e.2⟩]
    · rw [if_neg e, if_neg]
      rintro ⟨q1, ⟨q2, -⟩ | q2⟩
      · exact q2 rfl
      · exact e ⟨q1, q2⟩) (by rw [u5, r3.2, h.sc.2.1, hT, sAA, if_pos rfl]) (fun f hf => by rw [u6 f ⟨hf.2.1, hf.2.2⟩, r3.2]) (fun f hf => by rw [u7 f (by omega), r3.1 f (by omega)]) hbk hli hst
  refine ⟨T, u, k', run, by rw [r1, u1]; rfl, k2, ?_, TN, ?_, TAS 705 (by decide), fun q => ⟨by rw [u7 57 (by decide), r3.1 57 (by decide)], by rw [TAS 803 (by decide)]⟩, ?_, by rw [u6 0 (by decide), r3.2]⟩
  · have e : zP T = zP T1 := by rw [hT, tPA, tPA, drS_P]
    rw [e, e3.2.2.2.1, e2.2.2.2.1]
  · have e : zN T = zN A := by
      have e : zN T = zN T1 := by rw [hT]; rfl
      rw [e, e3.2.2.2.2.2.2]
    have := e2.2.2.2.2.2.2.1
    unfold cst at this ⊢
    rw [e]; exact this
  · have cu := cT_up (S := S) (T := T) (t := t) (d := 1) (by
      unfold ctb
      rw [T5, if_pos rfl, if_pos rfl, h5, h6, if_neg (by decide), if_pos rfl]) (zN S 10) (fun q _ hn => by
      unfold ctb
      rw [T5, if_neg hn, e7, TAS 1006 (by decide)])
    rw [if_pos ht] at cu
    omega
end
