/-! a wave: the reference -/
section
variable {B k : Nat} {S T S0 : Ss} {w v : MS}
theorem wk_inv {s q : Nat} (hs : s < 18) (hq : q < 18) : wk s = q ↔ s = wk q := by
  unfold wk
  by_cases e1 : s / 6 = 1
  · rw [if_pos e1]
    by_cases e2 : q / 6 = 1
    · rw [if_pos e2]; omega
    · rw [if_neg e2]; omega
  · rw [if_neg e1]
    by_cases e2 : q / 6 = 1
    · rw [if_pos e2]; omega
    · rw [if_neg e2]
theorem wk_lt {q : Nat} (hq : q < 18) : wk q < 18 := by unfold wk; split <;> omega
theorem key_iff {W L O K Q : Nat} (hL : L < 12) (hO : O < 8) (hQ : Q < 96) : W * 96 + L * 8 + O = K * 96 + Q ↔ W = K ∧ L = Q / 8 ∧ O = Q % 8 := by
  constructor
  · intro h
    have h1 : W = K := by omega
    subst h1
    omega
  · rintro ⟨h1, h2, h3⟩
    subst h1
    omega
theorem Rel.kIsFor (h : Rel B k S w) {n x : Nat} (hn : ((hL S).filter (hasO S))[n]? = some x) (z : Int32) : g_X12_isFor (nI n) z w = some (bI (cdS S z x), w) := by
  have hcnt := h.hcount
  have hnl := (List.getElem?_eq_some_iff.mp hn).1
  obtain ⟨hx, hxo⟩ := List.mem_filter.mp (List.mem_of_getElem? hn)
  obtain ⟨s0, o, j, l, s1, s2, s3, s4, s5, s6, s7, s8⟩ := h.rw.2.2.2 n x hn
  obtain ⟨j', c1, c2, c3, -⟩ := h.hpos hx s1
  have ej : j' = j := Option.some.inj (c1.symm.trans s2)
  subst ej
  obtain ⟨p', hp', -, hq'⟩ := h.lqO c2 c3
  have h8 := h.or.1
  have eL : mA w 40 n / 3 = nI o := by rw [s4, div3 (by omega)]; congr 1; omega
  have cn := nI_clamp (show n < 2 ^ 31 by omega)
  rw [cdS_s s1]
  cases q : zO S 205 x with
  | some t =>
    have e : ¬ ((some t : Option Nat) = none ∧ (z >>> (nI o &&& 31)) &&& 1 = 1) := by simp
    have n1 : ¬ mA w 44 n = -1 := by
      rw [s8, q]
      intro e
      have := (fcI_m1 (o := some t) (fun j hj => by cases hj; have := s0 t q; omega)).mp e
      cases this
    rw [decide_eq_false e]
    simp only [g_X12_isFor, kif, r_gb, gbn_s, r_grd, r_gbo, r_gret, r_gst, k_isIn, k_isSlot, k_isItem, k_isGroup, k_isRobot, k_are, k_holds0, k_holds1, k_holds2, k_holds3, k_bit, k_less, bI_t, bI_f, i10, i00, i01, i11, i20, i30, ↓reduceIte, r_gnI (show n < mL 44 from show n < 2400 by omega) (show mL 44 < 2 ^ 31 by decide), cn, n1]
  | none =>
    have n1 : mA w 44 n = -1 := by rw [s8, q]; rfl
    by_cases e : (z >>> (nI o &&& 31)) &&& 1 = 1
    · rw [decide_eq_true ⟨rfl, e⟩]
      simp only [g_X12_isFor, kif, r_gb, gbn_s, r_grd, r_gbo, r_gret, r_gst, k_isIn, k_isSlot, k_isItem, k_isGroup, k_isRobot, k_are, k_holds0, k_holds1, k_holds2, k_holds3, k_bit, k_less, bI_t, bI_f, i10, i00, i01, i11, i20, i30, ↓reduceIte, r_gnI (show n < mL 44 from show n < 2400 by omega) (show mL 44 < 2 ^ 31 by decide), r_gnI (show n < mL 40 from show n < 2400 by omega) (show mL 40 < 2 ^ 31 by decide), cn, n1, eL, e]
    · rw [decide_eq_false (fun r => e r.2)]
      simp only [g_X12_isFor, kif, r_gb, gbn_s, r_grd, r_gbo, r_gret, r_gst, k_isIn, k_isSlot, k_isItem, k_isGroup, k_isRobot, k_are, k_holds0, k_holds1, k_holds2, k_holds3, k_bit, k_less, bI_t, bI_f, i10, i00, i01, i11, i20, i30, ↓reduceIte, r_gnI (show n < mL 44 from show n < 2400 by omega) (show mL 44 < 2 ^ 31 by decide), r_gnI (show n < mL 40 from show n < 2400 by omega) (show mL 40 < 2 ^ 31 by decide), cn, n1, eL, e]
theorem cds_M (z : Int32) : (hL S).filter (cdS S z) = ((hL S).filter (hasO S)).filter (cdS S z) := by
  rw [List.filter_filter]
  refine List.filter_congr fun x _ => ?_
  cases q : cdS S z x with
  | false => rfl
  | true =>
    obtain ⟨o, ho, -⟩ := cdS_o q
    have : hasO S x = true := by unfold hasO; rw [ho]; rfl
    rw [this]; rfl
theorem Rel.kPicks (h : Rel B k S w) (z : Int32) : g_X12_picks z w = some (nI ((hL S).filter (cdS S z)).length, w) := by
  have hcnt := h.hcount
  have key := g_sum (fun f a j => g_X12_picks_4 f z a j) (fun a => some (a, w)) w ((hL S).filter (hasO S)).length (fun i => if cdS S z ((((hL S).filter (hasO S))[i]?).getD 0) = true then (1 : Int32) else 0) (fun f a i hi => ?_) (fun f a => ?_) 0 FU (FU_gt (by omega))
  · rw [Int32.zero_add, cds_cnt, ← cds_M] at key
    exact key
  · have hx : ((hL S).filter (hasO S))[i]? = some (((hL S).filter (hasO S))[i]'hi) := List.getElem?_eq_getElem hi
    have ki := h.kIsFor hx z
    rw [hx]
    show _ = g_X12_picks_4 f z (a + if cdS S z (((hL S).filter (hasO S))[i]'hi) = true then (1 : Int32) else 0) (nI (i + 1)) w
    generalize ((hL S).filter (hasO S))[i]'hi = X at ki
    cases q : cdS S z X with
    | true =>
      rw [q] at ki
      simp only [g_X12_picks_4, kif, r_gb, gbn_s, r_grd, r_gbo, r_gret, r_gst, k_isIn, k_isSlot, k_isItem, k_isGroup, k_isRobot, k_are, k_holds0, k_holds1, k_holds2, k_holds3, k_bit, k_less, bI_t, bI_f, i10, i00, i01, i11, i20, i30, ↓reduceIte, h.hm.1, nI_ge hi (show ((hL S).filter (hasO S)).length < 2 ^ 31 by omega), ki, nI_1]
    | false =>
      rw [q] at ki
      simp only [g_X12_picks_4, kif, r_gb, gbn_s, r_grd, r_gbo, r_gret, r_gst, k_isIn, k_isSlot, k_isItem, k_isGroup, k_isRobot, k_are, k_holds0, k_holds1, k_holds2, k_holds3, k_bit, k_less, bI_t, bI_f, i10, i00, i01, i11, i20, i30, ↓reduceIte, h.hm.1, nI_ge hi (show ((hL S).filter (hasO S)).length < 2 ^ 31 by omega), ki, nI_1, Bool.false_eq_true]
  · simp only [g_X12_picks_4, kif, r_gb, gbn_s, r_grd, r_gbo, r_gret, r_gst, k_isIn, k_isSlot, k_isItem, k_isGroup, k_isRobot, k_are, k_holds0, k_holds1, k_holds2, k_holds3, k_bit, k_less, bI_t, bI_f, i10, i00, i01, i11, i20, i30, ↓reduceIte, h.hm.1, Int32.le_refl]
/-- what stays of the candidates that are still to come -/
def U2 (S0 S : Ss) (K : Nat) : Prop := ∀ y, y ∈ hL S0 → K < kR S0 y → zO S 205 y = zO S0 205 y
theorem FQ.has (h : FQ S0 S) : hasO S = hasO S0 ∧ hL S = hL S0 := by
  obtain ⟨h1, h2, -⟩ := h
  exact ⟨by funext y; unfold hasO; rw [h2], by unfold hL; rw [h1]⟩
end
theorem waveN {B k r q Q : Nat} {S0 : Ss} (hr : r < 3) (z : Int32) (hq : q < 18) (hQ : Q < 96) (R : List Nat) (K3 : Int32 → Int32 → Int32 → Int32 → GM (Unit)) (hnd : ((hL S0).filter (hasO S0)).Nodup) {T : Ss} {v : MS} : ∀ d n, n + d = ((hL S0).filter (hasO S0)).length → ∀ (S : Ss) (w : MS), Rel B k S w → FQ S0 S → (∀ y, y ∈ ((hL S0).filter (hasO S0)).drop n → kR S0 y = q * 96 + Q → zO S 205 y = zO S0 205 y) → U2 S0 S (q * 96 + Q) → JC B k r ((((hL S0).filter (hasO S0)).drop n).filter (fun y => decide (kR S0 y = q * 96 + Q) && cdS S0 z y) ++ R) S w T v → ∀ f, d < f → ∃ S' w', g_X12_makesPicks_13 K3 f (nI r) z (nI (wk q)) (nI Q) (nI n) w = K3 (nI r) z (nI (wk q)) (nI (Q + 1)) w' ∧ Rel B k S' w' ∧ FQ S0 S' ∧ U2 S0 S' (q * 96 + Q) ∧ JC B k r R S' w' T v
  | 0, n, hnd', S, w, h, hF, hU, hU2, hJ, f, hf => by
    obtain ⟨f, rfl⟩ : ∃ f', f = f' + 1 := ⟨f - 1, by omega⟩
    obtain ⟨eO, eH⟩ := hF.has
    have e39 : mI w 39 = nI n := by rw [h.hm.1, eO, eH]; congr 1; omega
    rw [List.drop_eq_nil_of_le (by omega)] at hJ
    refine ⟨S, w, ?_, h, hF, hU2, hJ⟩
    simp only [g_X12_makesPicks_13, kif, r_gb, gbn_s, r_grd, r_gbo, r_gret, r_gst, k_isIn, k_isSlot, k_isItem, k_isGroup, k_isRobot, k_are, k_holds0, k_holds1, k_holds2, k_holds3, k_bit, k_less, bI_t, bI_f, i10, i00, i01, i11, i20, i30, ↓reduceIte, e39, Int32.le_refl, nI_1]
  | d + 1, n, hnd', S, w, h, hF, hU, hU2, hJ, f, hf => by
    obtain ⟨f, rfl⟩ : ∃ f', f = f' + 1 := ⟨f - 1, by omega⟩
    obtain ⟨eO, eH⟩ := hF.has
    have hcnt := h.hcount
    rw [eO, eH] at hcnt
    have hnl : n < ((hL S0).filter (hasO S0)).length := by omega
    have hx : ((hL S0).filter (hasO S0))[n]? = some (((hL S0).filter (hasO S0))[n]'hnl) := List.getElem?_eq_getElem hnl
    have hdrop := List.drop_eq_getElem_cons hnl
    generalize ((hL S0).filter (hasO S0))[n]'hnl = X at hx hdrop
    have hxS : ((hL S).filter (hasO S))[n]? = some X := by rw [eO, eH]; exact hx
    obtain ⟨hX0, hXo⟩ := List.mem_filter.mp (List.mem_of_getElem? hx)
    have hXS : X ∈ hL S := by rw [eH]; exact hX0
    obtain ⟨s0, o, j, l, s1, s2, s3, s4, s5, s6, s7, s8⟩ := h.rw.2.2.2 n X hxS
    obtain ⟨j', c1, c2, c3, -⟩ := h.hpos hXS s1
    have ej : j' = j := Option.some.inj (c1.symm.trans s2)
    subst ej
    obtain ⟨p', hp', -, hq'⟩ := h.lqO c2 c3
    have h8 := h.or.1
    obtain ⟨b1, b2, b3, b4, b5, b6, b7, b8, b9⟩ := h.kRB hXS s1
    have el : loN S X = l := Option.some.inj (b5.symm.trans s3)
    have ekR := hF.kRe
    have eL : mA w 40 n / 3 = nI o := by rw [s4, div3 (by omega)]; congr 1; omega
    have cn := nI_clamp (show n < 2 ^ 31 by omega)
    have e39 : mI w 39 = nI ((hL S0).filter (hasO S0)).length := by rw [h.hm.1, eO, eH]
    have hge := nI_ge hnl (show ((hL S0).filter (hasO S0)).length < 2 ^ 31 by omega)
    have eQ8 : nI Q / 8 = nI (Q / 8) := by rw [show (8 : Int32) = nI 8 from rfl, pk_div (by omega) (by decide) (by decide)]
    have eQr : nI Q - nI (Q / 8) * 8 = nI (Q % 8) := by
      have := pk_rem (a := Q) (d := 8) (by omega) (by decide) (by decide)
      rw [← eQ8]; exact this
    have e41 : mA w 41 n = nI (slN S X) := by rw [s5]; exact b2
    have wlt := wk_lt hq
    have ik : kR S0 X = q * 96 + Q ↔ (slN S X = wk q ∧ loN S X = Q / 8 ∧ orN S X = Q % 8) := by
      rw [← ekR]
      show wk (slN S X) * 96 + loN S X * 8 + orN S X = _ ↔ _
      rw [key_iff b3 (by omega) hQ, wk_inv b1 hq]
    have b40 : n < mL 40 := show n < 2400 by omega
    have b41 : n < mL 41 := show n < 2400 by omega
    have b42 : n < mL 42 := show n < 2400 by omega
    have b43 : n < mL 43 := show n < 2400 by omega
    have ki := h.kIsFor hxS z
    have next : ∀ (S' : Ss) (w' : MS), Rel B k S' w' → FQ S0 S' → (∀ y, y ∈ ((hL S0).filter (hasO S0)).drop (n + 1) → kR S0 y = q * 96 + Q → zO S' 205 y = zO S0 205 y) → U2 S0 S' (q * 96 + Q) → JC B k r ((((hL S0).filter (hasO S0)).drop (n + 1)).filter (fun y => decide (kR S0 y = q * 96 + Q) && cdS S0 z y) ++ R) S' w' T v → ∃ S'' w'', g_X12_makesPicks_13 K3 f (nI r) z (nI (wk q)) (nI Q) (nI (n + 1)) w' = K3 (nI r) z (nI (wk q)) (nI (Q + 1)) w'' ∧ Rel B k S'' w'' ∧ FQ S0 S'' ∧ U2 S0 S'' (q * 96 + Q) ∧ JC B k r R S'' w'' T v := fun S' w' a1 a2 a3 a4 a5 => waveN hr z hq hQ R K3 hnd d (n + 1) (by omega) S' w' a1 a2 a3 a4 a5 f (by omega)
    have hdm : ∀ y, y ∈ ((hL S0).filter (hasO S0)).drop (n + 1) → y ∈ ((hL S0).filter (hasO S0)).drop n := fun y hy => by rw [hdrop]; exact List.mem_cons_of_mem _ hy
    by_cases ck : kR S0 X = q * 96 + Q
    · obtain ⟨k1, k2, k3⟩ := ik.mp ck
      have cdE : cdS S z X = cdS S0 z X := by
        unfold cdS
        rw [hF.2.1, hU X (by rw [hdrop]; exact List.mem_cons_self ..) ck]
      have g41 : mA w 41 n = nI (wk q) := by rw [e41, k1]
      have g42 : mA w 42 n = nI (Q / 8) := by rw [s6, ← k2, el]
      have g40 : mA w 40 n / 3 = nI (Q % 8) := by rw [eL, ← k3, b6]
      cases qc : cdS S0 z X with
      | true =>
        rw [hdrop, List.filter_cons_of_pos (by rw [qc]; simp [ck])] at hJ
        obtain ⟨S1, w1, P, hJ1⟩ := hJ
        obtain ⟨p1, p2, p3, p4, p5, p6, p7⟩ := P
        rw [cdE, qc] at ki
        have run : g_X12_makesPicks_13 K3 (f + 1) (nI r) z (nI (wk q)) (nI Q) (nI n) w = g_X12_makesPicks_13 K3 f (nI r) z (nI (wk q)) (nI Q) (nI (n + 1)) w1 := by
          have e20 : (20 : Int32) + nI (Q % 8) = nI (20 + o) := by rw [show (20 : Int32) = nI 20 from rfl, nI_add, ← k3, b6]
          have hs2 : zA S 202 X = nI (wk q) := by rw [b2, k1]
          have g40' : nI (lqS S o j') / 3 = nI (Q % 8) := by rw [← s4]; exact g40
          have hl2 : zO S 203 X = some (Q / 8) := by rw [b5, k2]
          rw [← p2 n o j' (Q / 8) (wk q) (g_X12_makesPicks_13 K3 f (nI r) z (nI (wk q)) (nI Q) (nI (n + 1))) hxS s1 s2 hl2 hs2]
          simp only [g_X12_makesPicks_13, g_X12_makesPicks_70, kif, r_gb, gbn_s, r_grd, r_gbo, r_gret, r_gst, k_isIn, k_isSlot, k_isItem, k_isGroup, k_isRobot, k_are, k_holds0, k_holds1, k_holds2, k_holds3, k_bit, k_less, bI_t, bI_f, i10, i00, i01, i11, i20, i30, ↓reduceIte, e39, hge, r_gnI b40 (show mL 40 < 2 ^ 31 by decide), r_gnI b41 (show mL 41 < 2 ^ 31 by decide), r_gnI b42 (show mL 42 < 2 ^ 31 by decide), r_gnI b43 (show mL 43 < 2 ^ 31 by decide), cn, g41, eQ8, g42, eQr, s4, g40', ki, e20, s7, nI_1]
        rw [run]
        refine next S1 w1 p3 (hF.pk p4) (fun y hy hk => ?_) (fun y hy hk => ?_) hJ1
        · have ne : ¬ y = X := fun e => by
            have nd := hnd
            rw [← List.take_append_drop n ((hL S0).filter (hasO S0)), hdrop, List.nodup_append] at nd
            rw [e] at hy
            exact (List.nodup_cons.mp nd.2.1).1 hy
          rw [p4.2.2.1 y ne]; exact hU y (hdm y hy) hk
        · have ne : ¬ y = X := fun e => by rw [e, ck] at hk; exact Nat.lt_irrefl _ hk
          rw [p4.2.2.1 y ne]; exact hU2 y hy hk
      | false =>
        rw [hdrop, List.filter_cons_of_neg (by rw [qc]; simp)] at hJ
        rw [cdE, qc] at ki
        have run : g_X12_makesPicks_13 K3 (f + 1) (nI r) z (nI (wk q)) (nI Q) (nI n) w = g_X12_makesPicks_13 K3 f (nI r) z (nI (wk q)) (nI Q) (nI (n + 1)) w := by
          simp only [g_X12_makesPicks_13, g_X12_makesPicks_70, kif, r_gb, gbn_s, r_grd, r_gbo, r_gret, r_gst, k_isIn, k_isSlot, k_isItem, k_isGroup, k_isRobot, k_are, k_holds0, k_holds1, k_holds2, k_holds3, k_bit, k_less, bI_t, bI_f, i10, i00, i01, i11, i20, i30, ↓reduceIte, e39, hge, r_gnI b40 (show mL 40 < 2 ^ 31 by decide), r_gnI b41 (show mL 41 < 2 ^ 31 by decide), r_gnI b42 (show mL 42 < 2 ^ 31 by decide), cn, g41, eQ8, g42, eQr, g40, ki, nI_1]
        rw [run]
        exact next S w h hF (fun y hy hk => hU y (hdm y hy) hk) hU2 hJ
    · rw [hdrop, List.filter_cons_of_neg (by simp [ck])] at hJ
      have run : g_X12_makesPicks_13 K3 (f + 1) (nI r) z (nI (wk q)) (nI Q) (nI n) w = g_X12_makesPicks_13 K3 f (nI r) z (nI (wk q)) (nI Q) (nI (n + 1)) w := by
        by_cases z1 : mA w 41 n = nI (wk q)
        · by_cases z2 : mA w 42 n = nI (Q / 8)
          · by_cases z3 : mA w 40 n / 3 = nI (Q % 8)
            · exfalso
              refine ck (ik.mpr ⟨?_, ?_, ?_⟩)
              · rw [e41] at z1; exact (nI_eq (by omega) (by omega)).mp z1
              · rw [s6] at z2; rw [el]; exact (nI_eq (by omega) (by omega)).mp z2
              · rw [eL] at z3; rw [b6]; exact (nI_eq (by omega) (by omega)).mp z3
            · simp only [g_X12_makesPicks_13, g_X12_makesPicks_69, g_X12_makesPicks_70, kif, r_gb, gbn_s, r_grd, r_gbo, r_gret, r_gst, k_isIn, k_isSlot, k_isItem, k_isGroup, k_isRobot, k_are, k_holds0, k_holds1, k_holds2, k_holds3, k_bit, k_less, bI_t, bI_f, i10, i00, i01, i11, i20, i30, ↓reduceIte, e39, hge, r_gnI b40 (show mL 40 < 2 ^ 31 by decide), r_gnI b41 (show mL 41 < 2 ^ 31 by decide), r_gnI b42 (show mL 42 < 2 ^ 31 by decide), cn, z1, eQ8, z2, eQr, z3, nI_1]
          · simp only [g_X12_makesPicks_13, g_X12_makesPicks_69, g_X12_makesPicks_70, kif, r_gb, gbn_s, r_grd, r_gbo, r_gret, r_gst, k_isIn, k_isSlot, k_isItem, k_isGroup, k_isRobot, k_are, k_holds0, k_holds1, k_holds2, k_holds3, k_bit, k_less, bI_t, bI_f, i10, i00, i01, i11, i20, i30, ↓reduceIte, e39, hge, r_gnI b41 (show mL 41 < 2 ^ 31 by decide), r_gnI b42 (show mL 42 < 2 ^ 31 by decide), cn, z1, eQ8, z2, nI_1]
        · simp only [g_X12_makesPicks_13, g_X12_makesPicks_69, g_X12_makesPicks_70, kif, r_gb, gbn_s, r_grd, r_gbo, r_gret, r_gst, k_isIn, k_isSlot, k_isItem, k_isGroup, k_isRobot, k_are, k_holds0, k_holds1, k_holds2, k_holds3, k_bit, k_less, bI_t, bI_f, i10, i00, i01, i11, i20, i30, ↓reduceIte, e39, hge, r_gnI b41 (show mL 41 < 2 ^ 31 by decide), cn, z1, nI_1]
      rw [run]
      exact next S w h hF (fun y hy hk => hU y (hdm y hy) hk) hU2 hJ
