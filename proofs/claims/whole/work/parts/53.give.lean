section
variable {m : Nat} {S T : Ss} {w v : MS}
/-- a task is given to a robot -/
def tkT (S : Ss) (r t c : Nat) : Ss := pL 800 r (zL S 800 r ++ [t]) c (pA 1005 t 1 S)
def tkV (S : Ss) (w : MS) (r t : Nat) : MS := mSA 53 t (nI r) (mSA 52 t 1 (mSA 59 r (nI ((rowS S r).length + 1)) (mSA 58 (60 * r + (rowS S r).length) (nI t) w)))
theorem tk_row {r t c : Nat} (hn : ∀ q, q < 3 → t ∉ zL S 800 q) (q : Nat) (hq : q < 3) : rowS (tkT S r t c) q = if q = r then rowS S r ++ [t] else rowS S q := by
  have hA : zA (tkT S r t c) 1005 = zA (pA 1005 t 1 S) 1005 := by unfold tkT; rw [tAL]
  have hl : zL (tkT S r t c) 800 q = if q = r then zL S 800 r ++ [t] else zL S 800 q := by unfold tkT; rw [sLL, tLA]
  have key : ∀ p, p < 3 → (zL S 800 p).filter (fun t' => decide (zA (pA 1005 t 1 S) 1005 t' = 1)) = rowS S p := fun p hp => by
    refine List.filter_congr fun x hx => ?_
    rw [sAA, if_neg (fun r => hn p hp (by rw [← r]; exact hx))]
  unfold rowS
  rw [hA, hl]
  split
  · rename_i e
    rw [List.filter_append, key r (by omega)]
    show _ ++ [t].filter _ = _
    rw [List.filter_cons_of_pos (by rw [sAA, if_pos rfl]; rfl)]
    rfl
  · exact key q hq
theorem Rel.take {B k : Nat} (h : Rel B k S w) {r t : Nat} (hr : r < 3) (ht : t < zN S 10) (h0 : zA S 1005 t = 0) (c : Nat) : Rel B k (tkT S r t c) (tkV S w r t) := by
  have hn : ∀ q, q < 3 → t ∉ zL S 800 q := fun q hq hm => ((h.ro.1 q hq).2.2.2.2.2.1 t hm).2 h0
  have hrow := tk_row (S := S) (r := r) (t := t) (c := c) hn
  have hL : ∀ f, f ≠ 800 → zL (tkT S r t c) f = zL S f := fun f hf => by unfold tkT; rw [fLL hf, tLA]
  have hA : ∀ f, f ≠ 1005 → zA (tkT S r t c) f = zA S f := fun f hf => by unfold tkT; rw [tAL, fAA hf]
  have hO : ∀ f, True → zO (tkT S r t c) f = zO S f := fun f _ => rfl
  have hC : ∀ f, True → zC (tkT S r t c) f = zC S f := fun f _ => rfl
  have hN : ∀ f, True → zN (tkT S r t c) f = zN S f := fun f _ => rfl
  have hM : zM (tkT S r t c) = zM S := rfl
  have hI : ∀ f, True → mI (tkV S w r t) f = mI w f := fun f _ => rfl
  have hB : ∀ f, f ≠ 53 ∧ f ≠ 52 ∧ f ≠ 59 ∧ f ≠ 58 → mA (tkV S w r t) f = mA w f := fun f hf => by unfold tkV; rw [fBA hf.1, fBA hf.2.1, fBA hf.2.2.1, fBA hf.2.2.2]
  have h5 : ∀ x, zA (tkT S r t c) 1005 x = if x = t then 1 else zA S 1005 x := fun x => by unfold tkT; rw [tAL, sAA]
  have hOn : ∀ x, (zA (tkT S r t c) 1005 x = 0 ∨ zA (tkT S r t c) 1005 x = 1) = (zA S 1005 x = 0 ∨ zA S 1005 x = 1) := fun x => by
    rw [h5]; split
    · rename_i e; rw [e, h0]; simp
    · rfl
  have h52 : ∀ x, mA (tkV S w r t) 52 x = if x = t then 1 else mA w 52 x := fun x => by
    unfold tkV; rw [fBA (by decide), sBA, fBA (by decide), fBA (by decide)]
  have h53 : ∀ x, mA (tkV S w r t) 53 x = if x = t then nI r else mA w 53 x := fun x => by
    unfold tkV; rw [sBA, fBA (by decide), fBA (by decide), fBA (by decide)]
  have h59 : ∀ x, mA (tkV S w r t) 59 x = if x = r then nI ((rowS S r).length + 1) else mA w 59 x := fun x => by
    unfold tkV; rw [fBA (by decide), fBA (by decide), sBA, fBA (by decide)]
  have h58 : ∀ x, mA (tkV S w r t) 58 x = if x = 60 * r + (rowS S r).length then nI t else mA w 58 x := fun x => by
    unfold tkV; rw [fBA (by decide), fBA (by decide), fBA (by decide), sBA]
  have h60 := h.ta.1
  have hl9 : ∀ q, q < 3 → (rowS S q).length < 60 := fun q hq => by
    have hnd : (t :: rowS S q).Nodup := List.nodup_cons.mpr ⟨fun hm => hn q hq (List.mem_filter.mp hm).1, (h.ro.1 q hq).2.2.2.2.1.sublist List.filter_sublist⟩
    have := nd_len (zN S 10) _ hnd fun x hx => by
      rcases List.mem_cons.mp hx with e | e
      · rw [e]; exact ht
      · exact ((h.ro.1 q hq).2.2.2.2.2.1 x (List.mem_filter.mp e).1).1
    have e : (t :: rowS S q).length = (rowS S q).length + 1 := rfl
    omega
  have ta : g_ta (tkT S r t c) (tkV S w r t) := by
    obtain ⟨b1, b2, b3, b4⟩ := h.ta
    unfold g_ta onT
    simp only [hOn]
    rw [hN 10 (by decide), hL 1108 (by decide), hI 45 (by decide), hA 1000 (by decide), hA 1001 (by decide), hA 1003 (by decide), hA 1004 (by decide), hA 1006 (by decide), hO 1002 (by decide), hN 2 (by decide), hO 203 (by decide), hN 5 (by decide), hO 205 (by decide), hO 200 (by decide), hO 201 (by decide), hA 202 (by decide), hN 7 (by decide), hL 704 (by decide), hB 46 (by decide), hB 47 (by decide), hB 48 (by decide), hB 49 (by decide), hB 50 (by decide), hB 51 (by decide), hB 54 (by decide)]
    unfold lqS
    simp only [hL_eq]
    rw [hL 1107 (by decide), hL 704 (by decide)]
    refine ⟨b1, b2, b3, fun x hx => ?_⟩
    obtain ⟨c1, c2, c3, c4, c5, c6, c7, c8⟩ := b4 x hx
    refine ⟨c1, c2, c3, c4, ?_, c6, ?_, c8⟩
    · rw [h52, h5, c5]
    · rw [h5]; split
      · exact ⟨by decide, by decide⟩
      · exact c7
  have ro : g_ro (tkT S r t c) (tkV S w r t) := by
    obtain ⟨n1, n2, n3, n4⟩ := h.ro
    have hl : ∀ q, zL (tkT S r t c) 800 q = if q = r then zL S 800 r ++ [t] else zL S 800 q := fun q => by unfold tkT; rw [sLL, tLA]
    have hm : ∀ q, q < 3 → ∀ x, x ∈ zL (tkT S r t c) 800 q → x ∈ zL S 800 q ∨ (x = t ∧ q = r) := fun q hq x hx => by
      rw [hl] at hx
      split at hx
      · rename_i e
        rcases List.mem_append.mp hx with hx | hx
        · left; rw [e]; exact hx
        · right; exact ⟨List.mem_singleton.mp hx, e⟩
      · left; exact hx
    unfold g_ro
    rw [hA 801 (by decide), hA 802 (by decide), hB 55 (by decide), hB 56 (by decide), hN 10 (by decide)]
    refine ⟨fun q hq => ?_, n2, fun q q' x hq hq' hx hx' => ?_, fun x hx => ?_⟩
    · obtain ⟨a1, a2, a3, a4, a5, a6, a7⟩ := n1 q hq
      rw [hrow q hq]
      refine ⟨a1, a2, ?_, fun k x hx => ?_, ?_, fun x hx => ?_, fun x hx => ?_⟩
      · rw [h59]; split
        · rw [List.length_append]; rfl
        · exact a3
      · rw [h58]
        by_cases e : q = r
        · subst e
          rw [if_pos rfl] at hx
          by_cases e2 : k < (rowS S q).length
          · rw [List.getElem?_append_left e2] at hx
            rw [if_neg (by omega)]
            exact a4 k x hx
          · rw [List.getElem?_append_right (by omega)] at hx
            have e3 : k - (rowS S q).length = 0 := by
              refine Classical.byContradiction fun r => ?_
              rw [List.getElem?_eq_none (by simp; omega)] at hx; cases hx
            rw [e3] at hx
            have e4 : t = x := Option.some.inj hx
            rw [if_pos (by omega), e4]
        · rw [if_neg e] at hx
          have := (List.getElem?_eq_some_iff.mp hx).1
          have := hl9 q hq
          have := hl9 r hr
          rw [if_neg (by omega)]
          exact a4 k x hx
      · rw [hl]; split
        · rename_i e
          subst e
          rw [List.nodup_append]
          refine ⟨a5, by simp, fun x hx y hy => ?_⟩
          rw [List.mem_singleton.mp hy]
          exact fun e => hn q hq (e ▸ hx)
        · exact a5
      · rw [h5]
        rcases hm q hq x hx with e | ⟨e, -⟩
        · rw [if_neg (fun e9 => hn q hq (by rw [← e9]; exact e))]; exact a6 x e
        · rw [if_pos e, e]; exact ⟨ht, by decide⟩
      · rw [h53]
        by_cases e : x = t
        · rw [if_pos e]
          by_cases e2 : q = r
          · rw [e2]
          · rw [if_neg e2] at hx
            exact absurd (List.mem_filter.mp hx).1 (e ▸ hn q hq)
        · rw [if_neg e]
          refine a7 x ?_
          split at hx
          · rename_i e2
            rcases List.mem_append.mp hx with hx | hx
            · rw [e2]; exact hx
            · exact absurd (List.mem_singleton.mp hx) e
          · exact hx
    · rcases hm q hq x hx with e | ⟨e, e2⟩
      · rcases hm q' hq' x hx' with e' | ⟨e', e2'⟩
        · exact n3 q q' x hq hq' e e'
        · exact absurd e (e' ▸ hn q hq)
      · rcases hm q' hq' x hx' with e' | ⟨e', e2'⟩
        · exact absurd e' (e ▸ hn q' hq')
        · rw [e2, e2']
    · rw [h5, h53]
      by_cases e : x = t
      · rw [if_pos e, if_pos e]
        refine ⟨fun r => absurd r (by decide), fun _ => ⟨r, hr, ?_⟩⟩
        rw [hl, if_pos rfl, e]
        exact List.mem_append_right _ (List.mem_singleton.mpr rfl)
      · rw [if_neg e, if_neg e]
        obtain ⟨b1, b2⟩ := n4 x hx
        refine ⟨b1, fun r => ?_⟩
        obtain ⟨q, hq, hm⟩ := b2 r
        refine ⟨q, hq, ?_⟩
        rw [hl]; split
        · rename_i e2; rw [← e2]; exact List.mem_append_left _ hm
        · exact hm
  have ho : g_ho (tkT S r t c) (tkV S w r t) := (co_ho (hL 1107 (by decide)) (hN 2 (by decide)) (hA 204 (by decide)) (hN 5 (by decide)) (hO 203 (by decide)) (hA 202 (by decide)) (hO 200 (by decide)) (hO 201 (by decide)) (hO 205 (by decide)) (hN 7 (by decide)) (hL 704 (by decide)) (hA 705 (by decide)) (hN 10 (by decide)) (hO 1002 (by decide)) hOn (hA 1004 (by decide)) h.ho)
  have ap : g_ap (tkT S r t c) (tkV S w r t) := (co_ap (hC 4 (by decide)) (hN 10 (by decide)) hOn (hA 1001 (by decide)) (hA 1003 (by decide)) (hA 1004 (by decide)) (hO 501 (by decide)) (hO 203 (by decide)) (hO 1002 (by decide)) (hO 902 (by decide)) h.ap)
  exact ⟨(cg_sl (hA 900 (by decide)) (hA 901 (by decide)) (hA 903 (by decide)) (hA 904 (by decide)) (hO 902 (by decide)) (hB 4 (by decide)) (hB 5 (by decide)) (hB 6 (by decide)) (hB 7 (by decide)) (hB 8 (by decide)) h.sl), (cg_it (hA 300 (by decide)) (hA 301 (by decide)) (hA 302 (by decide)) (hA 303 (by decide)) (hA 304 (by decide)) (hA 305 (by decide)) (hB 9 (by decide)) (hB 10 (by decide)) (hB 11 (by decide)) (hB 12 (by decide)) (hB 13 (by decide)) h.it), (cg_ba (hA 1115 (by decide)) (hB 14 (by decide)) h.ba), (cg_sc (hA 1116 (by decide)) (hA 1118 (by decide)) (hA 1117 (by decide)) (hI 1 (by decide)) (hI 2 (by decide)) (hI 3 (by decide)) h.sc), (cg_lo (hN 5 (by decide)) (hL 1103 (by decide)) (hA 500 (by decide)) (hA 502 (by decide)) (hA 503 (by decide)) (hO 501 (by decide)) (hI 15 (by decide)) (hB 16 (by decide)) (hB 17 (by decide)) (hB 18 (by decide)) h.lo), (cg_be (hL 1104 (by decide)) (hN 5 (by decide)) (hA 502 (by decide)) h.be), (cg_no (hN 6 (by decide)) (hL 1105 (by decide)) (hO 600 (by decide)) (hA 601 (by decide)) (hA 602 (by decide)) (hI 22 (by decide)) (hB 23 (by decide)) (hB 24 (by decide)) (hB 25 (by decide)) h.no), (cg_ca (hC 1110 (by decide)) (hB 26 (by decide)) h.ca), (cg_aw (hC 1111 (by decide)) (hN 7 (by decide)) (hA 705 (by decide)) (hB 33 (by decide)) h.aw), (cg_or (hN 7 (by decide)) (hN 72 (by decide)) (hL 1106 (by decide)) (hA 700 (by decide)) (hA 701 (by decide)) (hA 702 (by decide)) (hA 703 (by decide)) (hA 705 (by decide)) (hI 27 (by decide)) (hB 28 (by decide)) (hB 29 (by decide)) (hB 30 (by decide)) (hB 31 (by decide)) (hB 32 (by decide)) h.or), (cg_li (hN 7 (by decide)) (hL 704 (by decide)) (hN 4 (by decide)) (hO 400 (by decide)) (hA 401 (by decide)) (hA 402 (by decide)) (hA 403 (by decide)) (hB 31 (by decide)) (hB 36 (by decide)) (hB 37 (by decide)) (hB 38 (by decide)) h.li), (cg_bk (hC 0 (by decide)) (hC 1 (by decide)) (hN 5 (by decide)) (hO 501 (by decide)) (hB 19 (by decide)) h.bk), (cg_nn (hC 0 (by decide)) (hC 2 (by decide)) h.nn), (cg_tr (hC 2 (by decide)) (hC 0 (by decide)) (hB 20 (by decide)) h.tr), (cg_db (hC 5 (by decide)) (hB 21 (by decide)) h.db), (cg_mv (hA 7 (by decide)) (hN 60 (by decide)) hM (hC 0 (by decide)) h.mv), ho, (cg_hs (hC 3 (by decide)) (hL 1107 (by decide)) (hA 202 (by decide)) (hO 203 (by decide)) (hA 204 (by decide)) (hC 0 (by decide)) (hN 4 (by decide)) (hA 402 (by decide)) (hO 201 (by decide)) h.hs), (cg_hm (hI 39 (by decide)) (hL 1107 (by decide)) (hO 200 (by decide)) (hO 201 (by decide)) (hO 203 (by decide)) (hL 704 (by decide)) (hA 202 (by decide)) (hA 204 (by decide)) (hO 205 (by decide)) (hB 40 (by decide)) (hB 41 (by decide)) (hB 42 (by decide)) (hB 43 (by decide)) (hB 44 (by decide)) h.hm), ta, ap, ro, (cg_st (hN 7 (by decide)) (hA 705 (by decide)) (hN 5 (by decide)) (hC 0 (by decide)) (hL 704 (by decide)) (hA 403 (by decide)) h.st), (cg_bx (hN 7 (by decide)) (hA 705 (by decide)) (hA 706 (by decide)) (hC 1112 (by decide)) (hA 302 (by decide)) (hA 303 (by decide)) (hA 304 (by decide)) (hO 501 (by decide)) (hN 5 (by decide)) (hB 34 (by decide)) (hB 35 (by decide)) h.bx)⟩
theorem Rel.kGives {B k : Nat} (h : Rel B k S w) {r t : Nat} (hr : r < 3) (ht : t < zN S 10) (h0 : zA S 1005 t = 0) : g_X12_gives (nI r) (nI t) w = some ((), tkV S w r t) := by
  obtain ⟨-, -, a3, -⟩ := h.ro.1 r hr
  have h60 := h.ta.1
  have hn : t ∉ zL S 800 r := fun hm => ((h.ro.1 r hr).2.2.2.2.2.1 t hm).2 h0
  have hl9 : (rowS S r).length < 60 := by
    have hnd : (t :: rowS S r).Nodup := List.nodup_cons.mpr ⟨fun hm => hn (List.mem_filter.mp hm).1, (h.ro.1 r hr).2.2.2.2.1.sublist List.filter_sublist⟩
    have := nd_len (zN S 10) _ hnd fun x hx => by
      rcases List.mem_cons.mp hx with e | e
      · rw [e]; exact ht
      · exact ((h.ro.1 r hr).2.2.2.2.2.1 x (List.mem_filter.mp e).1).1
    have e : (t :: rowS S r).length = (rowS S r).length + 1 := rfl
    omega
  have e60 : (60 : Int32) * nI r + nI (rowS S r).length = nI (60 * r + (rowS S r).length) := by rw [show (60 : Int32) = nI 60 from rfl, pk_mul, nI_add]
  simp only [g_X12_gives, kif, r_gb, gbn_s, r_grd, r_gbo, r_gret, r_gst, k_isIn, k_isSlot, k_isItem, k_isGroup, k_isRobot, k_are, k_holds0, k_holds1, k_holds2, k_holds3, k_bit, k_less, bI_t, bI_f, i10, i00, i01, i11, i20, i30, ↓reduceIte, mI_mSA, mI_mSI, mA_mSI, mA_mSA, Nat.reduceEqDiff, reduceCtorEq, Nat.reduceEqDiff, false_and, true_and, and_true, r_gnI (show r < mL 59 from hr) (show mL 59 < 2 ^ 31 by decide), nI_clamp (show r < 2 ^ 31 by omega), a3, e60, r_gnI (show 60 * r + (rowS S r).length < mL 58 from show 60 * r + (rowS S r).length < 180 by omega) (show mL 58 < 2 ^ 31 by decide), nI_clamp (show 60 * r + (rowS S r).length < 2 ^ 31 by omega), nI_1, r_gnI (show t < mL 52 from Nat.lt_of_lt_of_le ht h60) (show mL 52 < 2 ^ 31 by decide), r_gnI (show t < mL 53 from Nat.lt_of_lt_of_le ht h60) (show mL 53 < 2 ^ 31 by decide), nI_clamp (show t < 2 ^ 31 by omega)]
  rfl
/-- the class's taking: what it costs -/
theorem e_take {r t : Nat} (hl : (zL S 800 r).length < 2600) : ∃ a b c, (f_X8_take r t).1 S = some ((), pN 61 a (pN 62 b (tkT S r t c))) ∧ a ≤ zN S 61 + 1 ∧ b + 4 * zP S 800 r ≤ zN S 62 + 4 * c ∧ zP S 800 r ≤ c ∧ (zP S 800 r ≤ 3900 → c ≤ 3900) := by
  obtain ⟨a, b, c, ea, ha, hb, hc, hc2⟩ := pAdd_eq 800 r t (pA 1005 t 1 S)
  refine ⟨a, b, c, ?_, ha, hb, hc, fun q => hc2 q fun e => ?_⟩
  · unfold f_X8_take
    rw [r_wA, r_mladd (by rw [tLA]; exact hl), r_mret, ea]; rfl
  · have e' : (zL S 800 r).length = zP S 800 r := e
    show zP S 800 r < 2600
    omega
theorem cap_800 {r c : Nat} (hr : r < 3) (h : ∀ f i, ¬ (f = 800 ∧ i = r) → zP T f i = zP S f i) (h2 : zP T 800 r = c) : capS T + zP S 800 r = capS S + c := by
  rcases (show r = 0 ∨ r = 1 ∨ r = 2 by omega) with e | e | e
  · subst e; exact cap_800_0 h h2
  · subst e; exact cap_800_1 h h2
  · subst e; exact cap_800_2 h h2
theorem cT_lt : ∀ n, (∀ t, t < n → (if zA T 1005 t = 2 then 2 else if zA T 1006 t = 1 then 1 else 0) = (if zA S 1005 t = 2 then 2 else if zA S 1006 t = 1 then 1 else 0)) → cT T n = cT S n
  | 0, _ => rfl
  | t + 1, h => by unfold cT; rw [cT_lt t fun q hq => h q (by omega), h t (by omega)]
theorem sm_cnt (q : Nat → Bool) : ∀ xs : List Nat, sm xs (fun t => if q t = true then (1 : Int32) else 0) = nI (xs.filter q).length
  | [] => rfl
  | b :: t => by
    show (if q b = true then (1 : Int32) else 0) + sm t _ = _
    rw [sm_cnt q t]
    cases h : q b with
    | true => rw [List.filter_cons_of_pos h, if_pos rfl, Int32.add_comm, nI_1]; rfl
    | false => rw [List.filter_cons_of_neg (by simp [h]), if_neg (by decide), Int32.zero_add]
theorem e_inRow {r : Nat} (hl : (zL S 800 r).length < 90000) : (f_X8_tasksInRow r).1 S = some (nI (rowS S r).length, S) := by
  have key := m_sum (fun f a j => f_X8_tasksInRow_4 f r a j) (fun a => some (a, S)) S (zL S 800 r).length (fun k => if isT S (((zL S 800 r)[k]?).getD 0) = true then (1 : Int32) else 0) (fun f a k hk => ?_) (fun f a => ?_) 0 FU (FU_gt (by omega))
  · rw [Int32.zero_add, sm_idx (xs := zL S 800 r) (f := fun t => if isT S t = true then (1 : Int32) else 0) rfl (fun k x hx => by rw [hx]; rfl), sm_cnt] at key
    exact key
  · have hx : (zL S 800 r)[k]? = some ((zL S 800 r)[k]'hk) := List.getElem?_eq_getElem hk
    rw [hx]
    generalize (zL S 800 r)[k]'hk = X at hx
    show _ = (f_X8_tasksInRow_4 f r (a + if isT S X = true then (1 : Int32) else 0) (nI (k + 1))).1 S
    simp only [f_X8_tasksInRow_4, r_mb, bnd_s, r_mrd, r_mbo, r_mret, r_mthr, r_wA, r_wO, r_madd, r_mput, r_mopt, r_mcn, r_mcs, ite_f, e_isWithin, e_isSlot, e_isItem, e_isGroup, e_isRobot, e_isLot, e_isNotice, e_isOrder, e_isTask, bI_t, bI_f, i10, i00, i01, i11, i20, i30, ↓reduceIte, nI_ge hk (show (zL S 800 r).length < 2 ^ 31 by omega), mlget, lAt_n (show k < 2 ^ 31 by omega) hx, nI_1]
    unfold isT
    by_cases q : zA S 1005 X = 1
    · simp only [q, decide_true, ↓reduceIte]
    · simp only [q, decide_false, ↓reduceIte, Int32.add_zero, Bool.false_eq_true]
  · simp only [f_X8_tasksInRow_4, r_mb, bnd_s, r_mrd, r_mbo, r_mret, r_mthr, r_wA, r_wO, r_madd, r_mput, r_mopt, r_mcn, r_mcs, ite_f, e_isWithin, e_isSlot, e_isItem, e_isGroup, e_isRobot, e_isLot, e_isNotice, e_isOrder, e_isTask, bI_t, bI_f, i10, i00, i01, i11, i20, i30, ↓reduceIte, Int32.le_refl]
theorem s_give (g : GG m S w) (hm : m < 512) (x y : Int32) : STi GG m S w (f_X11_give x y) (g_X12_give x y) [(1, 1), (3, 2)] := by
  obtain ⟨-, -, hcp, B, k, -, -, h⟩ := id g
  have h60 := h.ta.1
  cases h1 : okI x 3 with
  | false =>
    refine sti_th g hm (u := 1) (c := 1) (r := 0) ?_ ?_ (by simp) (by decide) (by decide)
    · simp only [f_X11_give, r_mb, bnd_s, r_mrd, r_mbo, r_mret, r_mthr, r_wA, r_wO, r_madd, r_mput, r_mopt, r_mcn, r_mcs, ite_f, e_isWithin, e_isSlot, e_isItem, e_isGroup, e_isRobot, e_isLot, e_isNotice, e_isOrder, e_isTask, bI_t, bI_f, i10, i00, i01, i11, i20, i30, ↓reduceIte, h1]; try rfl
    · simp only [g_X12_give_44, g_X12_give_20, g_X12_give_19, g_X12_give, kif, r_gb, gbn_s, r_grd, r_gbo, r_gret, r_gst, k_isIn, k_isSlot, k_isItem, k_isGroup, k_isRobot, k_are, k_holds0, k_holds1, k_holds2, k_holds3, k_bit, k_less, bI_t, bI_f, i10, i00, i01, i11, i20, i30, ↓reduceIte, h1]; try rfl
  | true =>
    cases h2 : okI y (zN S 10) with
    | false =>
      refine sti_th g hm (u := 1) (c := 1) (r := 0) ?_ ?_ (by simp) (by decide) (by decide)
      · simp only [f_X11_give, r_mb, bnd_s, r_mrd, r_mbo, r_mret, r_mthr, r_wA, r_wO, r_madd, r_mput, r_mopt, r_mcn, r_mcs, ite_f, e_isWithin, e_isSlot, e_isItem, e_isGroup, e_isRobot, e_isLot, e_isNotice, e_isOrder, e_isTask, bI_t, bI_f, i10, i00, i01, i11, i20, i30, ↓reduceIte, h1, h.nt, h2]; try rfl
      · simp only [g_X12_give_44, g_X12_give_20, g_X12_give_19, g_X12_give, kif, r_gb, gbn_s, r_grd, r_gbo, r_gret, r_gst, k_isIn, k_isSlot, k_isItem, k_isGroup, k_isRobot, k_are, k_holds0, k_holds1, k_holds2, k_holds3, k_bit, k_less, bI_t, bI_f, i10, i00, i01, i11, i20, i30, ↓reduceIte, h1, h.kTas, h2]; try rfl
    | true =>
      obtain ⟨r, hr, rfl⟩ := okI_t (by decide) h1
      obtain ⟨t, ht, rfl⟩ := okI_t (by omega) h2
      obtain ⟨-, -, -, -, a5, -⟩ := h.ta.2.2.2 t ht
      by_cases q : zA S 1005 t = 0
      · have hR := (h.thr 0).take hr ht q
        have hlen := h.rlen hr
        obtain ⟨a, b, c, ea, ha, hb, hc, hc2⟩ := e_take (S := S) (r := r) (t := t) (by omega)
        have hc9 : c ≤ 3900 := hc2 (hcp.2.1 r hr)
        have hP : ∀ f i, zP (pN 61 a (pN 62 b (tkT S r t c))) f i = if f = 800 ∧ i = r then c else zP S f i := fun f i => by
          rw [tPN, tPN]; exact u2_at ..
        have hA : ∀ f i, zA (pN 61 a (pN 62 b (tkT S r t c))) f i = zA (pA 1005 t 1 S) f i := fun f i => by rw [tAN, tAN]; unfold tkT; rw [tAL]
        have hrow := tk_row (S := S) (r := r) (t := t) (c := c) (fun q' hq hm => ((h.ro.1 q' hq).2.2.2.2.2.1 t hm).2 q) r hr
        rw [if_pos rfl] at hrow
        have hl2 : (zL (pN 61 a (pN 62 b (tkT S r t c))) 800 r).length < 90000 := by
          rw [tLN, tLN]; unfold tkT; rw [sLL, if_pos rfl, List.length_append]; show _ + 1 < _; omega
        refine sti_st (T := pN 61 a (pN 62 b (tkT S r t c))) (v := tkV S (mSI 0 0 w) r t) (r := nI ((rowS S r).length + 1)) ?_ ?_ ?_ rfl
        · refine g.gen hm rfl ?_ ?_ ?_ ?_ fun B k hB hR => ⟨B, by omega, Rel.cost ((hR.thr 0).take hr ht q c) _ _⟩
          · rw [sNN]; omega
          · have e1 := cap_800 (S := S) (T := pN 61 a (pN 62 b (tkT S r t c))) (c := c) hr (fun f i q => by rw [hP, if_neg q]) (by rw [hP, if_pos ⟨rfl, rfl⟩])
            rw [fNN (by decide), sNN]
            omega
          · refine ⟨fun f h1 h2 => ?_, fun q hq => ?_, fun o ho => ?_⟩
            · rw [hP, if_neg (by omega)]; exact hcp.1 f h1 h2
            · rw [hP]; split
              · exact hc9
              · exact hcp.2.1 q hq
            · rw [hP, if_neg (by omega)]; exact hcp.2.2 o ho
          · have e1 := cT_lt (S := S) (T := pN 61 a (pN 62 b (tkT S r t c))) (zN S 10) fun x hx => by
              rw [hA, hA, sAA, zA_pA (by decide)]
              by_cases e : x = t
              · rw [if_pos e, e, q, if_neg (show ¬ (1 : Int32) = 2 by decide), if_neg (show ¬ (0 : Int32) = 2 by decide)]
              · rw [if_neg e]
            have e2 := cS_eq (S := S) (T := pN 61 a (pN 62 b (tkT S r t c))) (fun o => by rw [hA, zA_pA (by decide)]) (zN S 7)
            show cT (pN 61 a (pN 62 b (tkT S r t c))) (zN S 10) + 12 * cS (pN 61 a (pN 62 b (tkT S r t c))) (zN S 7) = _
            rw [e1, e2]
        · simp only [f_X11_give, r_mb, bnd_s, r_mrd, r_mbo, r_mret, r_mthr, r_wA, r_wO, r_madd, r_mput, r_mopt, r_mcn, r_mcs, ite_f, e_isWithin, e_isSlot, e_isItem, e_isGroup, e_isRobot, e_isLot, e_isNotice, e_isOrder, e_isTask, bI_t, bI_f, i10, i00, i01, i11, i20, i30, ↓reduceIte, h1, h.nt, h2, mlget, h.atT ht, q, r_mnI (show r < aLn 1102 from hr) (show aLn 1102 < 2 ^ 31 by decide), nI_clamp (show r < 2 ^ 31 by omega), ea, e_inRow hl2]
          have e9 : rowS (pN 61 a (pN 62 b (tkT S r t c))) r = rowS S r ++ [t] := by rw [← hrow]; rfl
          rw [e9, List.length_append]; rfl
        · have e8 := (h.thr 0).kGives hr ht q
          have e7 : mA (tkV S (mSI 0 0 w) r t) 59 r = nI ((rowS S r).length + 1) := by
            unfold tkV; rw [fBA (by decide), fBA (by decide), sBA, if_pos rfl]
          simp only [g_X12_give_44, g_X12_give_20, g_X12_give_19, g_X12_give, kif, r_gb, gbn_s, r_grd, r_gbo, r_gret, r_gst, k_isIn, k_isSlot, k_isItem, k_isGroup, k_isRobot, k_are, k_holds0, k_holds1, k_holds2, k_holds3, k_bit, k_less, bI_t, bI_f, i10, i00, i01, i11, i20, i30, ↓reduceIte, h1, h.kTas, h2, r_gnI (show t < mL 52 from Nat.lt_of_lt_of_le ht h60) (show mL 52 < 2 ^ 31 by decide), nI_clamp (show t < 2 ^ 31 by omega), a5, q, e8, r_gnI (show r < mL 59 from hr) (show mL 59 < 2 ^ 31 by decide), nI_clamp (show r < 2 ^ 31 by omega), e7]
      · refine sti_th g hm (u := 3) (c := 2) (r := 0) ?_ ?_ (by simp) (by decide) (by decide)
        · simp only [f_X11_give, r_mb, bnd_s, r_mrd, r_mbo, r_mret, r_mthr, r_wA, r_wO, r_madd, r_mput, r_mopt, r_mcn, r_mcs, ite_f, e_isWithin, e_isSlot, e_isItem, e_isGroup, e_isRobot, e_isLot, e_isNotice, e_isOrder, e_isTask, bI_t, bI_f, i10, i00, i01, i11, i20, i30, ↓reduceIte, h1, h.nt, h2, mlget, h.atT ht, q]; try rfl
        · simp only [g_X12_give_44, g_X12_give_20, g_X12_give_19, g_X12_give, kif, r_gb, gbn_s, r_grd, r_gbo, r_gret, r_gst, k_isIn, k_isSlot, k_isItem, k_isGroup, k_isRobot, k_are, k_holds0, k_holds1, k_holds2, k_holds3, k_bit, k_less, bI_t, bI_f, i10, i00, i01, i11, i20, i30, ↓reduceIte, h1, h.kTas, h2, r_gnI (show t < mL 52 from Nat.lt_of_lt_of_le ht h60) (show mL 52 < 2 ^ 31 by decide), nI_clamp (show t < 2 ^ 31 by omega), a5, q]; try rfl
end
