section
variable {m : Nat} {S T U : Ss} {w v u : MS}
theorem cS_one {o : Nat} (h : ∀ q, zA T 705 q = if q = o then 1 else zA S 705 q) (h0 : zA S 705 o = 0) : ∀ n, cS T n = cS S n + if o < n then 1 else 0
  | 0 => by rw [if_neg (by omega)]; rfl
  | t + 1 => by
    unfold cS
    rw [cS_one h h0 t, h t]
    by_cases q : t = o
    · rw [if_pos q, q, h0, if_neg (by omega), if_pos rfl, if_neg (by decide), if_pos (by omega)]
    · rw [if_neg q]
      by_cases q2 : o < t
      · rw [if_pos q2, if_pos (show o < t + 1 by omega)]; omega
      · rw [if_neg q2, if_neg (show ¬ o < t + 1 by omega), Nat.add_zero, Nat.add_zero]
theorem s_send (g : GG m S w) (hm : m < 512) (x : Int32) : STi GG m S w (f_X11_send x) (g_X12_send x) [(1, 1), (3, 2)] := by
  obtain ⟨B, k, hB, hk, hk2, hc1, hc2, h⟩ := g.out
  have h8 := h.or.1
  have h12 := h.lo.1
  cases h1 : okI x (zN S 7) with
  | false =>
    refine sti_th g hm (u := 1) (c := 1) (r := 0) ?_ ?_ (by simp) (by decide) (by decide)
    · simp only [f_X11_send, r_mb, bnd_s, r_mrd, r_mbo, r_mret, r_mthr, r_wA, r_wO, r_madd, r_mput, r_mopt, r_mcn, r_mcs, ite_f, e_isWithin, e_isSlot, e_isItem, e_isGroup, e_isRobot, e_isLot, e_isNotice, e_isOrder, e_isTask, bI_t, bI_f, i10, i00, i01, i11, i20, i30, ↓reduceIte, h.nor, h1]; try rfl
    · simp only [g_X12_send, g_X12_send_29, kif, r_gb, gbn_s, r_grd, r_gbo, r_gret, r_gst, k_isIn, k_isSlot, k_isItem, k_isGroup, k_isRobot, k_are, k_holds0, k_holds1, k_holds2, k_holds3, k_bit, k_less, bI_t, bI_f, i10, i00, i01, i11, i20, i30, ↓reduceIte, h.kOrd, h1]; try rfl
  | true =>
    obtain ⟨o, ho, rfl⟩ := okI_t (by omega) h1
    obtain ⟨o7, -, -, -, -, o32, -, -⟩ := h.or.2.2.2.2.1 o ho
    have j32 : o < mL 32 := show o < 8 by omega
    by_cases h5 : zA S 705 o = 0
    · -- the class lets go
      obtain ⟨T, t1, t2, t3⟩ := h.co.letGo (some o) none
      -- the reference packs, writes, takes the lots
      have h0 := h.thr 0
      obtain ⟨wa, p1, p2, p3⟩ := h0.kPacks ho h5
      obtain ⟨len, hlen⟩ : ∃ n, n = (pkn S o).length := ⟨_, rfl⟩
      have hl297 : len ≤ 297 := by
        have hz : ∀ i, i < 6 → tI (zA S 302 i) 1 9 := fun i hi => (h.it i hi).2.2.2.2.2.2.1
        have one : ∀ i, dk (zA S 302) (stC S o) 54 i ≤ stC S o i := fun i => by unfold dk; split <;> omega
        have q1 := pk_len (t := zA S 303) (g := zA S 304) (b := zA S 1115 0) (c := stC S o) hz 54 (Nat.le_refl _)
        have q2 := h.stSum ho h5
        have o0 := one 0; have o1 := one 1; have o2 := one 2; have o3 := one 3; have o4 := one 4; have o5 := one 5
        rw [hlen]; unfold pkn; unfold dks at q1; omega
      obtain ⟨b, hb⟩ : ∃ b, b = zA S 1118 0 + 5 * nI len := ⟨_, rfl⟩
      have wa2 : mI wa 2 = zA S 1118 0 := by rw [p3.1]; exact h0.sc.2.1
      obtain ⟨wb, hwb⟩ : ∃ wb, wb = mSI 2 b (mSA 35 o (nI len) wa) := ⟨_, rfl⟩
      have b35 : mA wb 35 o = nI len := by rw [hwb, tBI, sBA, if_pos rfl]
      have bA : ∀ f, f ≠ 35 → mA wb f = mA wa f := fun f hf => by rw [hwb, tBI, fBA hf]
      have bX : BXr wb (pkn S o) := by
        intro q z hz
        rw [bA 61 (by decide), bA 62 (by decide), bA 63 (by decide), bA 64 (by decide)]; exact p2 q z hz
      obtain ⟨wc, c1, c2, c3, c4, c5⟩ := k_copy (o := o) (n := len) (bs := pkn S o) (by omega) hlen.symm hl297 b35 bX
      have c15 : mI wc 15 = nI (zN S 5) := by rw [c4, hwb, fII (by decide), tIB, p3.1]; exact h0.lo.2.2.1
      obtain ⟨wd, d1, d2, d3, d4, d5, d6⟩ := k_lots (w := wc) (o := o) (n := zN S 5) (by omega) h12 c15
      have wdA : ∀ f, f ≠ 19 ∧ f ≠ 32 ∧ f ≠ 33 ∧ f ≠ 34 ∧ f ≠ 35 ∧ f ≠ 60 ∧ f ≠ 61 ∧ f ≠ 62 ∧ f ≠ 63 ∧ f ≠ 64 → mA wd f = mA w f := fun f hf => by
        rw [d6 f ⟨hf.1, hf.2.1, hf.2.2.1⟩, c5 f hf.2.2.2.1, bA f hf.2.2.2.2.1, p3.2 f hf.2.2.2.2.2]; rfl
      have wdI : ∀ f, f ≠ 0 ∧ f ≠ 2 → mI wd f = mI w f := fun f hf => by
        rw [d5, c4, hwb, fII hf.2, tIB, p3.1, fII hf.1]
      obtain ⟨v, s1, s2, s3, s4, s5⟩ := h.kSend ho t2 (u := wd) ⟨wdI 39 (by decide), wdI 45 (by decide), fun q q1 q2 => wdA q (by omega)⟩ (sm (List.range (zN S 5)) (fun l => mA wc 19 (12 * (20 + o) + l)))
      -- what holds between
      have hRh := h.lets (v := hyb w v) t2 t3 (s2.wr hyb_39 (hyb_h (by decide)) (hyb_h (by decide)) (hyb_h (by decide)) (hyb_h (by decide)) (hyb_h (by decide))) (fun t ht => by rw [hyb_h (by decide), hyb_h (by decide)]; exact s3 t ht) (s4.wr (hyb_h (by decide)) (hyb_h (by decide))) hyb_VF
      obtain ⟨hR, hcT⟩ := hRh
      have SFd : SF S (drS T) := t2.1.tr drS_SF
      have d7 : zN (drS T) 7 = zN S 7 := by rw [SFd.2.2.2.2.2.2]
      have d705 : zA (drS T) 705 o = 0 := by rw [SFd.1 705 (by decide)]; exact h5
      obtain ⟨P, e1, e2, e3⟩ := hR.ePack (o := o) (by rw [d7]; exact ho)
      have bx0 : bxs (drS T) o = pkn S o := by
        unfold bxs pkn stC
        rw [if_pos d705, SFd.1 302 (by decide), SFd.1 303 (by decide), SFd.1 304 (by decide), SFd.1 1115 (by decide)]
        congr 1
        funext i
        rw [SFd.2.2.2.2.1 1 (by decide)]
      rw [bx0] at e2
      obtain ⟨T3, hT3⟩ : ∃ T3, T3 = pA 706 o (zA (drS T) 1115 0) (pA 705 o 1 (pA 1118 0 b P)) := ⟨_, rfl⟩
      have A3 : ∀ f, f ≠ 706 ∧ f ≠ 705 ∧ f ≠ 1118 ∧ f ≠ 1114 → zA T3 f = zA (drS T) f := fun f hf => by
        rw [hT3, fAA hf.1, fAA hf.2.1, fAA hf.2.2.1, e3.1 f hf.2.2.2]
      have O3 : zO T3 = zO (drS T) := by rw [hT3, tOA, tOA, tOA, e3.2.1]
      have L3 : zL T3 = zL (drS T) := by rw [hT3, tLA, tLA, tLA, e3.2.2.1]
      have M3 : zM T3 = zM (drS T) := by rw [hT3, tMA, tMA, tMA, e3.2.2.2.2.1]
      have N3 : zN T3 = zN (drS T) := by rw [hT3, tNA, tNA, tNA, e3.2.2.2.2.2.1]
      have C3 : ∀ f, f ≠ 1113 → zC T3 f = zC (drS T) f := fun f hf => by rw [hT3, tCA, tCA, tCA, e3.2.2.2.2.2.2 f hf]
      have n5 : zN (drS T) 5 = zN S 5 := by rw [SFd.2.2.2.2.2.2]
      have cs7 : cS S (zN S 7) + 1 ≤ 8 := by
        have key : ∀ n, o < n → cS S n + 1 ≤ n := by
          intro n
          induction n with
          | zero => intro r; omega
          | succ n ih =>
            intro r
            unfold cS
            by_cases e : o = n
            · have := cS_le (S := S) n
              rw [← e, h5, if_neg (by decide)]; rw [← e] at this; omega
            · have := ih (by omega)
              split <;> omega
        have := key (zN S 7) ho
        omega
      obtain ⟨U, f1, f2⟩ := e_stand (S := T3) (k := k) (o := o) (n := zN S 5) (by omega) (by rw [N3, n5]) h12 (by rw [L3, ← n5]; exact hR.lo.2.1) (by rw [A3 300 (by decide)]; exact hR.hI) (fun l hl => by
        obtain ⟨q1, -, -, -, q5, q6, -⟩ := hR.lo.2.2.2.1 l (by rw [n5]; exact hl)
        have ei : itS T3 l = itS (drS T) l := by unfold itS; rw [O3]
        rw [A3 500 (by decide), O3, ei]; exact ⟨q1, q5, q6⟩) (by
        have := hR.mvAr
        unfold mvA at this ⊢
        rw [A3 7 (by decide), N3]; exact this) (by rw [M3, C3 0 (by decide)]; exact hR.mv.2.2.2.2.2.2) (by omega)
      have hno : ∀ y, y ∈ hL (drS T) → ¬ zO (drS T) 200 y = some o := fun y hy r => by
        rw [drS_L, List.mem_filter] at hy
        have hyS : y ∈ hL S := by
          have e : hL T = hL S := by unfold hL; rw [t2.2.1]
          rw [← e]; exact hy.1
        have r' : zO S 200 y = some o := by rw [← SFd.2.1]; exact r
        have z := (t2.2.2.2.1 y).1 ⟨hyS, by rw [r']; simp, Or.inl r'⟩
        have := of_decide_eq_true hy.2
        rw [z] at this
        exact absurd this (by decide)
      have vAll : ∀ f, f ≠ 40 ∧ f ≠ 41 ∧ f ≠ 42 ∧ f ≠ 43 ∧ f ≠ 44 ∧ f ≠ 51 ∧ f ≠ 52 ∧ f ≠ 58 ∧ f ≠ 59 → mA v f = mA wd f := s5.2
      have wc19 : mA wc 19 = mA w 19 := by rw [c5 19 (by decide), bA 19 (by decide), p3.2 19 (by decide)]; rfl
      have pk0 : pkn (drS T) o = pkn S o := by rw [← bx0]; unfold bxs; rw [if_pos d705]
      obtain ⟨k', r1, r2⟩ := hR.sendF (o := o) (by rw [d7]; exact ho) d705 hno e3 (b := b) hT3 (by rw [n5]; exact f2) (by omega) (v := v) (fun f hf => by
        by_cases q : f = 39
        · rw [q, hyb_39]
        · rw [hyb_I q, s5.1 f q]; exact wdI f hf) (by rw [s5.1 2 (by decide), d5, c4, hwb, sII]) (fun f hf => by
        by_cases q : f = 40 ∨ f = 41 ∨ f = 42 ∨ f = 43 ∨ f = 44 ∨ f = 51 ∨ f = 52 ∨ f = 58 ∨ f = 59
        · rw [hyb_h q]
        · rw [hyb_w q, vAll f (by omega)]; exact wdA f hf) (fun j => by rw [n5, vAll 19 (by decide), d2, wc19, hyb_w (by decide)]) (fun j => by
        rw [n5, vAll 33 (by decide), d3, wc19, hyb_w (by decide), hyb_w (by decide), c5 33 (by decide), bA 33 (by decide), p3.2 33 (by decide)]; rfl) (fun j => by
        rw [vAll 32 (by decide), d4, hyb_w (by decide), c5 32 (by decide), bA 32 (by decide), p3.2 32 (by decide)]; rfl) (fun j => by
        rw [vAll 35 (by decide), d6 35 (by decide), c5 35 (by decide), pk0, ← hlen, hwb, tBI, sBA, hyb_w (by decide), p3.2 35 (by decide)]; rfl) (fun q z hz => by
        rw [pk0] at hz
        rw [vAll 34 (by decide), d6 34 (by decide)]; exact c2 q z hz) (fun j hj => by
        rw [vAll 34 (by decide), d6 34 (by decide), c3 j hj, bA 34 (by decide), hyb_w (by decide), p3.2 34 (by decide)]; rfl)
      -- the run
      have eN : ∀ f, f ≠ 60 ∧ f ≠ 61 ∧ f ≠ 62 → zN U f = zN S f := fun f hf => by rw [f2.2.2.2.2.1 f hf, N3, SFd.2.2.2.2.2.2]
      have eP : zP U = zP S := by rw [f2.2.2.2.1, hT3, tPA, tPA, tPA, e3.2.2.2.1, SFd.2.2.2.1]
      have ecap : capS U = capS S := by unfold capS; rw [eP]
      have u705 : ∀ q, zA U 705 q = if q = o then 1 else zA S 705 q := fun q => by
        rw [f2.1 705 (by decide), hT3, fAA (by decide), sAA, fAA (by decide), e3.1 705 (by decide), SFd.1 705 (by decide)]
      have eCT : cT U (zN S 10) = cT S (zN S 10) := by
        have q1 : cT U (zN S 10) = cT T (zN S 10) := cT_eq (S := T) (T := U) (fun t => by rw [f2.1 1005 (by decide), A3 1005 (by decide)]; rfl) (fun t => by rw [f2.1 1006 (by decide), A3 1006 (by decide)]; rfl) _
        rw [q1, hcT]
      have eCS : cS U (zN S 7) = cS S (zN S 7) + 1 := by rw [cS_one u705 h5, if_pos ho]
      have cstU := f2.2.2.2.2.2.1
      unfold cst at cstU
      rw [N3, SFd.2.2.2.2.2.2] at cstU
      have valE : sm (List.range (zN S 5)) (fun l => zC T3 0 (12 * (20 + o) + l)) = sm (List.range (zN S 5)) (fun l => mA wc 19 (12 * (20 + o) + l)) := by
        refine sm_cg _ fun l hl => ?_
        have := List.mem_range.mp hl
        rw [C3 0 (by decide), SFd.2.2.2.2.1 0 (by decide), wc19]
        exact h.bk.1 _ (by omega)
      refine sti_st (T := U) (v := v) (r := sm (List.range (zN S 5)) (fun l => zC T3 0 (12 * (20 + o) + l))) ?_ ?_ ?_ ?_
      · refine g.inn hm (by omega) (by rw [ecap]; omega) ?_ hB hk (show B ≤ B + 15000 by omega) (k' := k') ?_ r2
        · unfold g_cp; rw [eP, eN 7 (by decide)]; exact g.2.2.1
        · rw [eN 10 (by decide), eN 7 (by decide), eCT, eCS]; omega
      · have e1118 : zA P 1118 0 = zA S 1118 0 := by rw [e3.1 1118 (by decide), SFd.1 1118 (by decide)]
        have e1114 : zA P 1114 0 = nI len := by rw [e2.1, ← hlen]
        have e1115 : zA (pA 705 o 1 (pA 1118 0 b P)) 1115 0 = zA (drS T) 1115 0 := by rw [fAA (by decide), fAA (by decide), e3.1 1115 (by decide)]
        simp only [f_X11_send, r_mb, bnd_s, r_mrd, r_mbo, r_mret, r_mthr, r_wA, r_wO, r_madd, r_mput, r_mopt, r_mcn, r_mcs, ite_f, e_isWithin, e_isSlot, e_isItem, e_isGroup, e_isRobot, e_isLot, e_isNotice, e_isOrder, e_isTask, bI_t, bI_f, i10, i00, i01, i11, i20, i30, ↓reduceIte, h.nor, h1, mlget, h.atO ho, h5, t1, e1, e1118, e1114, ← hb, e1115, ← hT3, f1]
      · have q1 : g_X12_send_70 FU (nI o) 0 0 wb = _ := c1
        have w32 : mA w 32 o = 0 := by rw [o32]; exact h5
        have run : g_X12_send (nI o) w = g_X12_send_70 FU (nI o) 0 0 wb := by
          simp only [g_X12_send, g_X12_send_29, kif, r_gb, gbn_s, r_grd, r_gbo, r_gret, r_gst, k_isIn, k_isSlot, k_isItem, k_isGroup, k_isRobot, k_are, k_holds0, k_holds1, k_holds2, k_holds3, k_bit, k_less, bI_t, bI_f, i10, i00, i01, i11, i20, i30, ↓reduceIte, mI_mSA, mI_mSI, mA_mSI, mA_mSA, Nat.reduceEqDiff, reduceCtorEq, Nat.reduceEqDiff, false_and, true_and, and_true, h.kOrd, h1, r_gnI j32 (show mL 32 < 2 ^ 31 by decide), nI_clamp (show o < 2 ^ 31 by omega), w32, p1, r_gnI (show o < mL 35 from j32) (show mL 35 < 2 ^ 31 by decide), ← hlen, wa2, ← hb]
          rw [hwb]
        rw [run, q1, d1, s1, valE]
      · rw [s5.1 0 (by decide), d5, c4, hwb, fII (by decide), tIB, p3.1]; rfl
    · have w32 : ¬ mA w 32 o = 0 := by rw [o32]; exact h5
      refine sti_th g hm (u := 3) (c := 2) (r := 0) ?_ ?_ (by simp) (by decide) (by decide)
      · simp only [f_X11_send, r_mb, bnd_s, r_mrd, r_mbo, r_mret, r_mthr, r_wA, r_wO, r_madd, r_mput, r_mopt, r_mcn, r_mcs, ite_f, e_isWithin, e_isSlot, e_isItem, e_isGroup, e_isRobot, e_isLot, e_isNotice, e_isOrder, e_isTask, bI_t, bI_f, i10, i00, i01, i11, i20, i30, ↓reduceIte, h.nor, h1, mlget, h.atO ho, h5]; try rfl
      · simp only [g_X12_send, g_X12_send_29, kif, r_gb, gbn_s, r_grd, r_gbo, r_gret, r_gst, k_isIn, k_isSlot, k_isItem, k_isGroup, k_isRobot, k_are, k_holds0, k_holds1, k_holds2, k_holds3, k_bit, k_less, bI_t, bI_f, i10, i00, i01, i11, i20, i30, ↓reduceIte, h.kOrd, h1, r_gnI j32 (show mL 32 < 2 ^ 31 by decide), nI_clamp (show o < 2 ^ 31 by omega), w32]; try rfl
end
