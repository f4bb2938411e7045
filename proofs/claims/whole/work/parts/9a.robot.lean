/-! the robots' places -/
section
variable {B k : Nat} {S T : Ss} {w v : MS}
theorem Rel.wt (h : Rel B k S w) (r : Nat) (x y : Int32) : Rel B k (pA 803 r x S) (mSA 57 r y w) := by
  have hA : ∀ f, f ≠ 803 → zA (pA 803 r x S) f = zA S f := fun f hf => fAA hf
  have hB : ∀ f, f ≠ 57 → mA (mSA 57 r y w) f = mA w f := fun f hf => fBA hf
  have hO : ∀ f, True → zO (pA 803 r x S) f = zO S f := fun f _ => rfl
  have hL : ∀ f, True → zL (pA 803 r x S) f = zL S f := fun f _ => rfl
  have hC : ∀ f, True → zC (pA 803 r x S) f = zC S f := fun f _ => rfl
  have hN : ∀ f, True → zN (pA 803 r x S) f = zN S f := fun f _ => rfl
  have hM : zM (pA 803 r x S) = zM S := rfl
  have hI : ∀ f, True → mI (mSA 57 r y w) f = mI w f := fun f _ => rfl
  exact ⟨(cg_sl (hA 900 (by decide)) (hA 901 (by decide)) (hA 903 (by decide)) (hA 904 (by decide)) (hO 902 (by decide)) (hB 4 (by decide)) (hB 5 (by decide)) (hB 6 (by decide)) (hB 7 (by decide)) (hB 8 (by decide)) h.sl), (cg_it (hA 300 (by decide)) (hA 301 (by decide)) (hA 302 (by decide)) (hA 303 (by decide)) (hA 304 (by decide)) (hA 305 (by decide)) (hB 9 (by decide)) (hB 10 (by decide)) (hB 11 (by decide)) (hB 12 (by decide)) (hB 13 (by decide)) h.it), (cg_ba (hA 1115 (by decide)) (hB 14 (by decide)) h.ba), (cg_sc (hA 1116 (by decide)) (hA 1118 (by decide)) (hA 1117 (by decide)) (hI 1 (by decide)) (hI 2 (by decide)) (hI 3 (by decide)) h.sc), (cg_lo (hN 5 (by decide)) (hL 1103 (by decide)) (hA 500 (by decide)) (hA 502 (by decide)) (hA 503 (by decide)) (hO 501 (by decide)) (hI 15 (by decide)) (hB 16 (by decide)) (hB 17 (by decide)) (hB 18 (by decide)) h.lo), (cg_be (hL 1104 (by decide)) (hN 5 (by decide)) (hA 502 (by decide)) h.be), (cg_no (hN 6 (by decide)) (hL 1105 (by decide)) (hO 600 (by decide)) (hA 601 (by decide)) (hA 602 (by decide)) (hI 22 (by decide)) (hB 23 (by decide)) (hB 24 (by decide)) (hB 25 (by decide)) h.no), (cg_ca (hC 1110 (by decide)) (hB 26 (by decide)) h.ca), (cg_aw (hC 1111 (by decide)) (hN 7 (by decide)) (hA 705 (by decide)) (hB 33 (by decide)) h.aw), (cg_or (hN 7 (by decide)) (hN 72 (by decide)) (hL 1106 (by decide)) (hA 700 (by decide)) (hA 701 (by decide)) (hA 702 (by decide)) (hA 703 (by decide)) (hA 705 (by decide)) (hI 27 (by decide)) (hB 28 (by decide)) (hB 29 (by decide)) (hB 30 (by decide)) (hB 31 (by decide)) (hB 32 (by decide)) h.or), (cg_li (hN 7 (by decide)) (hL 704 (by decide)) (hN 4 (by decide)) (hO 400 (by decide)) (hA 401 (by decide)) (hA 402 (by decide)) (hA 403 (by decide)) (hB 31 (by decide)) (hB 36 (by decide)) (hB 37 (by decide)) (hB 38 (by decide)) h.li), (cg_bk (hC 0 (by decide)) (hC 1 (by decide)) (hN 5 (by decide)) (hO 501 (by decide)) (hB 19 (by decide)) h.bk), (cg_nn (hC 0 (by decide)) (hC 2 (by decide)) h.nn), (cg_tr (hC 2 (by decide)) (hC 0 (by decide)) (hB 20 (by decide)) h.tr), (cg_db (hC 5 (by decide)) (hB 21 (by decide)) h.db), (cg_mv (hA 7 (by decide)) (hN 60 (by decide)) hM (hC 0 (by decide)) h.mv), (cg_ho (hL 1107 (by decide)) (hN 2 (by decide)) (hA 204 (by decide)) (hN 5 (by decide)) (hO 203 (by decide)) (hA 202 (by decide)) (hO 200 (by decide)) (hO 201 (by decide)) (hO 205 (by decide)) (hN 7 (by decide)) (hL 704 (by decide)) (hA 705 (by decide)) (hN 10 (by decide)) (hO 1002 (by decide)) (hA 1005 (by decide)) (hA 1004 (by decide)) h.ho), (cg_hs (hC 3 (by decide)) (hL 1107 (by decide)) (hA 202 (by decide)) (hO 203 (by decide)) (hA 204 (by decide)) (hC 0 (by decide)) (hN 4 (by decide)) (hA 402 (by decide)) (hO 201 (by decide)) h.hs), (cg_hm (hI 39 (by decide)) (hL 1107 (by decide)) (hO 200 (by decide)) (hO 201 (by decide)) (hO 203 (by decide)) (hL 704 (by decide)) (hA 202 (by decide)) (hA 204 (by decide)) (hO 205 (by decide)) (hB 40 (by decide)) (hB 41 (by decide)) (hB 42 (by decide)) (hB 43 (by decide)) (hB 44 (by decide)) h.hm), (cg_ta (hN 10 (by decide)) (hL 1108 (by decide)) (hI 45 (by decide)) (hA 1000 (by decide)) (hA 1001 (by decide)) (hA 1003 (by decide)) (hA 1004 (by decide)) (hA 1005 (by decide)) (hA 1006 (by decide)) (hO 1002 (by decide)) (hN 2 (by decide)) (hO 203 (by decide)) (hN 5 (by decide)) (hL 1107 (by decide)) (hO 205 (by decide)) (hO 200 (by decide)) (hO 201 (by decide)) (hA 202 (by decide)) (hN 7 (by decide)) (hL 704 (by decide)) (hB 46 (by decide)) (hB 47 (by decide)) (hB 48 (by decide)) (hB 49 (by decide)) (hB 50 (by decide)) (hB 51 (by decide)) (hB 52 (by decide)) (hB 54 (by decide)) h.ta), (cg_ap (hC 4 (by decide)) (hN 10 (by decide)) (hA 1005 (by decide)) (hA 1001 (by decide)) (hA 1003 (by decide)) (hA 1004 (by decide)) (hO 501 (by decide)) (hO 203 (by decide)) (hO 1002 (by decide)) (hO 902 (by decide)) h.ap), (cg_ro (hA 801 (by decide)) (hA 802 (by decide)) (hL 800 (by decide)) (hA 1005 (by decide)) (hN 10 (by decide)) (hB 53 (by decide)) (hB 55 (by decide)) (hB 56 (by decide)) (hB 58 (by decide)) (hB 59 (by decide)) h.ro), (cg_st (hN 7 (by decide)) (hA 705 (by decide)) (hN 5 (by decide)) (hC 0 (by decide)) (hL 704 (by decide)) (hA 403 (by decide)) h.st), (cg_bx (hN 7 (by decide)) (hA 705 (by decide)) (hA 706 (by decide)) (hC 1112 (by decide)) (hA 302 (by decide)) (hA 303 (by decide)) (hA 304 (by decide)) (hO 501 (by decide)) (hN 5 (by decide)) (hB 34 (by decide)) (hB 35 (by decide)) h.bx)⟩
theorem Rel.roC (h : Rel B k S w) {r : Nat} {x y : Int32} (hT1 : ∀ q, zA T 801 q = if q = r then x else zA S 801 q) (hT2 : ∀ q, zA T 802 q = if q = r then y else zA S 802 q) (hA : ∀ f, f ≠ 801 ∧ f ≠ 802 ∧ f ≠ 803 → zA T f = zA S f) (hO : ∀ f, True → zO T f = zO S f) (hL : ∀ f, True → zL T f = zL S f) (hC : ∀ f, True → zC T f = zC S f) (hN : ∀ f, True → zN T f = zN S f) (hM : zM T = zM S) (hI : ∀ f, True → mI v f = mI w f) (hB : ∀ f, f ≠ 55 ∧ f ≠ 56 ∧ f ≠ 57 → mA v f = mA w f) (v55 : ∀ q, mA v 55 q = if q = r then x else mA w 55 q) (v56 : ∀ q, q ≠ r → mA v 56 q = mA w 56 q) (vr : x = -1 ∨ ∃ a p, a < 3 ∧ p < 6 ∧ x = nI a ∧ y = nI p ∧ mA v 56 r = nI p) (uq : x = -1 ∨ ∀ q, q < 3 → q ≠ r → ¬ zA S 801 q = x) : Rel B k T v := by
  have ro : g_ro T v := by
    obtain ⟨n1, n2, n3, n4⟩ := h.ro
    have eR : ∀ q, rowS T q = rowS S q := fun q => by unfold rowS; rw [hL 800 trivial, hA 1005 (by decide)]
    unfold g_ro
    simp only [eR]
    rw [hL 800 trivial, hN 10 trivial, hA 1005 (by decide), hB 53 (by decide), hB 58 (by decide), hB 59 (by decide)]
    refine ⟨fun q hq => ?_, fun q q' hq hq' he hne => ?_, n3, n4⟩
    · obtain ⟨a1, a2, a3⟩ := n1 q hq
      refine ⟨?_, ?_, a3⟩
      · rw [v55, hT1, a1]
      · by_cases e : q = r
        · subst e
          rw [hT1, hT2, if_pos rfl, if_pos rfl]
          exact vr
        · rw [hT1, hT2, if_neg e, if_neg e, v56 q e]; exact a2
    · rw [hT1, hT1] at he
      rw [hT1] at hne
      by_cases e : q = r
      · by_cases e' : q' = r
        · rw [e, e']
        · rw [if_pos e, if_neg e'] at he
          rw [if_pos e] at hne
          rcases uq with u | u
          · exact absurd u hne
          · exact absurd he.symm (u q' hq' e')
      · by_cases e' : q' = r
        · rw [if_neg e, if_pos e'] at he
          rw [if_neg e] at hne
          rcases uq with u | u
          · exact absurd (he.trans u) hne
          · exact absurd he (u q hq e)
        · rw [if_neg e, if_neg e'] at he
          rw [if_neg e] at hne
          exact n2 q q' hq hq' he hne
  exact ⟨(cg_sl (hA 900 (by decide)) (hA 901 (by decide)) (hA 903 (by decide)) (hA 904 (by decide)) (hO 902 (by decide)) (hB 4 (by decide)) (hB 5 (by decide)) (hB 6 (by decide)) (hB 7 (by decide)) (hB 8 (by decide)) h.sl), (cg_it (hA 300 (by decide)) (hA 301 (by decide)) (hA 302 (by decide)) (hA 303 (by decide)) (hA 304 (by decide)) (hA 305 (by decide)) (hB 9 (by decide)) (hB 10 (by decide)) (hB 11 (by decide)) (hB 12 (by decide)) (hB 13 (by decide)) h.it), (cg_ba (hA 1115 (by decide)) (hB 14 (by decide)) h.ba), (cg_sc (hA 1116 (by decide)) (hA 1118 (by decide)) (hA 1117 (by decide)) (hI 1 (by decide)) (hI 2 (by decide)) (hI 3 (by decide)) h.sc), (cg_lo (hN 5 (by decide)) (hL 1103 (by decide)) (hA 500 (by decide)) (hA 502 (by decide)) (hA 503 (by decide)) (hO 501 (by decide)) (hI 15 (by decide)) (hB 16 (by decide)) (hB 17 (by decide)) (hB 18 (by decide)) h.lo), (cg_be (hL 1104 (by decide)) (hN 5 (by decide)) (hA 502 (by decide)) h.be), (cg_no (hN 6 (by decide)) (hL 1105 (by decide)) (hO 600 (by decide)) (hA 601 (by decide)) (hA 602 (by decide)) (hI 22 (by decide)) (hB 23 (by decide)) (hB 24 (by decide)) (hB 25 (by decide)) h.no), (cg_ca (hC 1110 (by decide)) (hB 26 (by decide)) h.ca), (cg_aw (hC 1111 (by decide)) (hN 7 (by decide)) (hA 705 (by decide)) (hB 33 (by decide)) h.aw), (cg_or (hN 7 (by decide)) (hN 72 (by decide)) (hL 1106 (by decide)) (hA 700 (by decide)) (hA 701 (by decide)) (hA 702 (by decide)) (hA 703 (by decide)) (hA 705 (by decide)) (hI 27 (by decide)) (hB 28 (by decide)) (hB 29 (by decide)) (hB 30 (by decide)) (hB 31 (by decide)) (hB 32 (by decide)) h.or), (cg_li (hN 7 (by decide)) (hL 704 (by decide)) (hN 4 (by decide)) (hO 400 (by decide)) (hA 401 (by decide)) (hA 402 (by decide)) (hA 403 (by decide)) (hB 31 (by decide)) (hB 36 (by decide)) (hB 37 (by decide)) (hB 38 (by decide)) h.li), (cg_bk (hC 0 (by decide)) (hC 1 (by decide)) (hN 5 (by decide)) (hO 501 (by decide)) (hB 19 (by decide)) h.bk), (cg_nn (hC 0 (by decide)) (hC 2 (by decide)) h.nn), (cg_tr (hC 2 (by decide)) (hC 0 (by decide)) (hB 20 (by decide)) h.tr), (cg_db (hC 5 (by decide)) (hB 21 (by decide)) h.db), (cg_mv (hA 7 (by decide)) (hN 60 (by decide)) hM (hC 0 (by decide)) h.mv), (cg_ho (hL 1107 (by decide)) (hN 2 (by decide)) (hA 204 (by decide)) (hN 5 (by decide)) (hO 203 (by decide)) (hA 202 (by decide)) (hO 200 (by decide)) (hO 201 (by decide)) (hO 205 (by decide)) (hN 7 (by decide)) (hL 704 (by decide)) (hA 705 (by decide)) (hN 10 (by decide)) (hO 1002 (by decide)) (hA 1005 (by decide)) (hA 1004 (by decide)) h.ho), (cg_hs (hC 3 (by decide)) (hL 1107 (by decide)) (hA 202 (by decide)) (hO 203 (by decide)) (hA 204 (by decide)) (hC 0 (by decide)) (hN 4 (by decide)) (hA 402 (by decide)) (hO 201 (by decide)) h.hs), (cg_hm (hI 39 (by decide)) (hL 1107 (by decide)) (hO 200 (by decide)) (hO 201 (by decide)) (hO 203 (by decide)) (hL 704 (by decide)) (hA 202 (by decide)) (hA 204 (by decide)) (hO 205 (by decide)) (hB 40 (by decide)) (hB 41 (by decide)) (hB 42 (by decide)) (hB 43 (by decide)) (hB 44 (by decide)) h.hm), (cg_ta (hN 10 (by decide)) (hL 1108 (by decide)) (hI 45 (by decide)) (hA 1000 (by decide)) (hA 1001 (by decide)) (hA 1003 (by decide)) (hA 1004 (by decide)) (hA 1005 (by decide)) (hA 1006 (by decide)) (hO 1002 (by decide)) (hN 2 (by decide)) (hO 203 (by decide)) (hN 5 (by decide)) (hL 1107 (by decide)) (hO 205 (by decide)) (hO 200 (by decide)) (hO 201 (by decide)) (hA 202 (by decide)) (hN 7 (by decide)) (hL 704 (by decide)) (hB 46 (by decide)) (hB 47 (by decide)) (hB 48 (by decide)) (hB 49 (by decide)) (hB 50 (by decide)) (hB 51 (by decide)) (hB 52 (by decide)) (hB 54 (by decide)) h.ta), (cg_ap (hC 4 (by decide)) (hN 10 (by decide)) (hA 1005 (by decide)) (hA 1001 (by decide)) (hA 1003 (by decide)) (hA 1004 (by decide)) (hO 501 (by decide)) (hO 203 (by decide)) (hO 1002 (by decide)) (hO 902 (by decide)) h.ap), ro, (cg_st (hN 7 (by decide)) (hA 705 (by decide)) (hN 5 (by decide)) (hC 0 (by decide)) (hL 704 (by decide)) (hA 403 (by decide)) h.st), (cg_bx (hN 7 (by decide)) (hA 705 (by decide)) (hA 706 (by decide)) (hC 1112 (by decide)) (hA 302 (by decide)) (hA 303 (by decide)) (hA 304 (by decide)) (hO 501 (by decide)) (hN 5 (by decide)) (hB 34 (by decide)) (hB 35 (by decide)) h.bx)⟩
theorem mSA_id (f i : Nat) (w : MS) : mSA f i (mA w f i) w = w := by
  have e : mA (mSA f i (mA w f i) w) = mA w := by
    funext a b
    rw [mA_mSA]
    split
    · rename_i q; rw [q.1, q.2]
    · rfl
  exact Prod.ext rfl e
theorem Rel.front (h : Rel B k S w) (r : Nat) : Rel B k (pA 802 r 0 (pA 801 r (-1) S)) (mSA 55 r (-1) w) := by
  refine h.roC (T := pA 802 r 0 (pA 801 r (-1) S)) (v := mSA 55 r (-1) w) (r := r) (x := -1) (y := 0) (fun q => by rw [fAA (by decide), sAA]) (fun q => by rw [sAA, fAA (by decide)]) (fun f hf => by rw [fAA hf.2.1, fAA hf.1]) (fun _ _ => rfl) (fun _ _ => rfl) (fun _ _ => rfl) (fun _ _ => rfl) rfl (fun _ _ => rfl) (fun f hf => fBA hf.1) (fun q => sBA) (fun q _ => by rw [fBA (by decide)]) (Or.inl rfl) (Or.inl rfl)
theorem Rel.goA (h : Rel B k S w) {r a : Nat} (ha : a < 3) (hu : ∀ q, q < 3 → ¬ zA S 801 q = nI a) : Rel B k (pA 802 r 0 (pA 801 r (nI a) S)) (mSA 56 r 0 (mSA 55 r (nI a) w)) := by
  refine h.roC (T := pA 802 r 0 (pA 801 r (nI a) S)) (v := mSA 56 r 0 (mSA 55 r (nI a) w)) (r := r) (x := nI a) (y := 0) (fun q => by rw [fAA (by decide), sAA]) (fun q => by rw [sAA, fAA (by decide)]) (fun f hf => by rw [fAA hf.2.1, fAA hf.1]) (fun _ _ => rfl) (fun _ _ => rfl) (fun _ _ => rfl) (fun _ _ => rfl) rfl (fun _ _ => rfl) (fun f hf => by rw [fBA hf.2.1, fBA hf.1]) (fun q => by rw [fBA (by decide), sBA]) (fun q hq => by rw [sBA, if_neg hq, fBA (by decide)]) (Or.inr ⟨a, 0, ha, by decide, rfl, rfl, by rw [sBA, if_pos rfl]; rfl⟩) (Or.inr fun q hq _ => hu q hq)
theorem Rel.posA (h : Rel B k S w) {r p : Nat} (hr : r < 3) (hp : p < 6) (hn : ¬ zA S 801 r = -1) : Rel B k (pA 802 r (nI p) S) (mSA 56 r (nI p) w) := by
  obtain ⟨n1, n2, -⟩ := h.ro
  obtain ⟨a1, a2, -⟩ := n1 r hr
  rcases a2 with a2 | ⟨a, p0, ha, -, b1, -, -⟩
  · exact absurd a2 hn
  refine h.roC (T := pA 802 r (nI p) S) (v := mSA 56 r (nI p) w) (r := r) (x := zA S 801 r) (y := nI p) (fun q => ?_) (fun q => sAA) (fun f hf => fAA hf.2.1) (fun _ _ => rfl) (fun _ _ => rfl) (fun _ _ => rfl) (fun _ _ => rfl) rfl (fun _ _ => rfl) (fun f hf => fBA hf.2.1) (fun q => ?_) (fun q hq => by rw [sBA, if_neg hq]) (Or.inr ⟨a, p, ha, hp, b1, rfl, by rw [sBA, if_pos rfl]⟩) (Or.inr fun q hq hne he => hne (n2 q r hq hr he (by rw [he]; exact hn)))
  · rw [fAA (by decide)]
    split
    · rename_i e; rw [e]
    · rfl
  · rw [fBA (by decide)]
    split
    · rename_i e; rw [e, a1]
    · rfl
/-- a task is loaded -/
theorem Rel.loadA (h : Rel B k S w) {t : Nat} (ht : t < zN S 10) (hk : ¬ zA S 1001 t = 2) : Rel B k (pA 1006 t 1 S) (mSA 54 t 1 w) := by
  have hA : ∀ f, f ≠ 1006 → zA (pA 1006 t 1 S) f = zA S f := fun f hf => fAA hf
  have hB : ∀ f, f ≠ 54 → mA (mSA 54 t 1 w) f = mA w f := fun f hf => fBA hf
  have hO : ∀ f, True → zO (pA 1006 t 1 S) f = zO S f := fun f _ => rfl
  have hL : ∀ f, True → zL (pA 1006 t 1 S) f = zL S f := fun f _ => rfl
  have hC : ∀ f, True → zC (pA 1006 t 1 S) f = zC S f := fun f _ => rfl
  have hN : ∀ f, True → zN (pA 1006 t 1 S) f = zN S f := fun f _ => rfl
  have hM : zM (pA 1006 t 1 S) = zM S := rfl
  have hI : ∀ f, True → mI (mSA 54 t 1 w) f = mI w f := fun f _ => rfl
  have h6 : ∀ q, zA (pA 1006 t 1 S) 1006 q = if q = t then 1 else zA S 1006 q := fun q => sAA
  have h54 : ∀ q, mA (mSA 54 t 1 w) 54 q = if q = t then 1 else mA w 54 q := fun q => sBA
  have ta : g_ta (pA 1006 t 1 S) (mSA 54 t 1 w) := by
    obtain ⟨b1, b2, b3, b4⟩ := h.ta
    unfold g_ta onT lqS
    rw [hN 10 trivial, hL 1108 trivial, hI 45 trivial, hA 1000 (by decide), hA 1001 (by decide), hA 1003 (by decide), hA 1004 (by decide), hA 1005 (by decide), hO 1002 trivial, hN 2 trivial, hO 203 trivial, hN 5 trivial, hO 205 trivial, hO 200 trivial, hO 201 trivial, hA 202 (by decide), hN 7 trivial, hL 704 trivial, hB 46 (by decide), hB 47 (by decide), hB 48 (by decide), hB 49 (by decide), hB 50 (by decide), hB 51 (by decide), hB 52 (by decide), hL_eq, hL 1107 trivial]
    refine ⟨b1, b2, b3, fun q hq => ?_⟩
    obtain ⟨c1, c2, c3, c4, c5, c6, c7, x, l, d1, d2, d3, d4, d5, d6, d7, d8⟩ := b4 q hq
    refine ⟨c1, c2, c3, c4, c5, c6, c7, x, l, d1, d2, d3, d4, d5, d6, fun hon => ?_, ?_⟩
    · obtain ⟨e1, e2, e3, e4⟩ := d7 hon
      rw [h6, h54]
      by_cases e : q = t
      · rw [if_pos e, if_pos e]; exact ⟨e1, e2, rfl, Or.inr rfl⟩
      · rw [if_neg e, if_neg e]; exact ⟨e1, e2, e3, e4⟩
    · rcases d8 with d8 | d8 | ⟨f1, f2, f3, f4⟩
      · exact Or.inl d8
      · exact Or.inr (Or.inl d8)
      · refine Or.inr (Or.inr ⟨f1, f2, fun hon => ?_, f4⟩)
        rw [h6, if_neg (show ¬ q = t from fun e => hk (e ▸ f1))]; exact f3 hon
  exact ⟨(cg_sl (hA 900 (by decide)) (hA 901 (by decide)) (hA 903 (by decide)) (hA 904 (by decide)) (hO 902 (by decide)) (hB 4 (by decide)) (hB 5 (by decide)) (hB 6 (by decide)) (hB 7 (by decide)) (hB 8 (by decide)) h.sl), (cg_it (hA 300 (by decide)) (hA 301 (by decide)) (hA 302 (by decide)) (hA 303 (by decide)) (hA 304 (by decide)) (hA 305 (by decide)) (hB 9 (by decide)) (hB 10 (by decide)) (hB 11 (by decide)) (hB 12 (by decide)) (hB 13 (by decide)) h.it), (cg_ba (hA 1115 (by decide)) (hB 14 (by decide)) h.ba), (cg_sc (hA 1116 (by decide)) (hA 1118 (by decide)) (hA 1117 (by decide)) (hI 1 (by decide)) (hI 2 (by decide)) (hI 3 (by decide)) h.sc), (cg_lo (hN 5 (by decide)) (hL 1103 (by decide)) (hA 500 (by decide)) (hA 502 (by decide)) (hA 503 (by decide)) (hO 501 (by decide)) (hI 15 (by decide)) (hB 16 (by decide)) (hB 17 (by decide)) (hB 18 (by decide)) h.lo), (cg_be (hL 1104 (by decide)) (hN 5 (by decide)) (hA 502 (by decide)) h.be), (cg_no (hN 6 (by decide)) (hL 1105 (by decide)) (hO 600 (by decide)) (hA 601 (by decide)) (hA 602 (by decide)) (hI 22 (by decide)) (hB 23 (by decide)) (hB 24 (by decide)) (hB 25 (by decide)) h.no), (cg_ca (hC 1110 (by decide)) (hB 26 (by decide)) h.ca), (cg_aw (hC 1111 (by decide)) (hN 7 (by decide)) (hA 705 (by decide)) (hB 33 (by decide)) h.aw), (cg_or (hN 7 (by decide)) (hN 72 (by decide)) (hL 1106 (by decide)) (hA 700 (by decide)) (hA 701 (by decide)) (hA 702 (by decide)) (hA 703 (by decide)) (hA 705 (by decide)) (hI 27 (by decide)) (hB 28 (by decide)) (hB 29 (by decide)) (hB 30 (by decide)) (hB 31 (by decide)) (hB 32 (by decide)) h.or), (cg_li (hN 7 (by decide)) (hL 704 (by decide)) (hN 4 (by decide)) (hO 400 (by decide)) (hA 401 (by decide)) (hA 402 (by decide)) (hA 403 (by decide)) (hB 31 (by decide)) (hB 36 (by decide)) (hB 37 (by decide)) (hB 38 (by decide)) h.li), (cg_bk (hC 0 (by decide)) (hC 1 (by decide)) (hN 5 (by decide)) (hO 501 (by decide)) (hB 19 (by decide)) h.bk), (cg_nn (hC 0 (by decide)) (hC 2 (by decide)) h.nn), (cg_tr (hC 2 (by decide)) (hC 0 (by decide)) (hB 20 (by decide)) h.tr), (cg_db (hC 5 (by decide)) (hB 21 (by decide)) h.db), (cg_mv (hA 7 (by decide)) (hN 60 (by decide)) hM (hC 0 (by decide)) h.mv), (cg_ho (hL 1107 (by decide)) (hN 2 (by decide)) (hA 204 (by decide)) (hN 5 (by decide)) (hO 203 (by decide)) (hA 202 (by decide)) (hO 200 (by decide)) (hO 201 (by decide)) (hO 205 (by decide)) (hN 7 (by decide)) (hL 704 (by decide)) (hA 705 (by decide)) (hN 10 (by decide)) (hO 1002 (by decide)) (hA 1005 (by decide)) (hA 1004 (by decide)) h.ho), (cg_hs (hC 3 (by decide)) (hL 1107 (by decide)) (hA 202 (by decide)) (hO 203 (by decide)) (hA 204 (by decide)) (hC 0 (by decide)) (hN 4 (by decide)) (hA 402 (by decide)) (hO 201 (by decide)) h.hs), (cg_hm (hI 39 (by decide)) (hL 1107 (by decide)) (hO 200 (by decide)) (hO 201 (by decide)) (hO 203 (by decide)) (hL 704 (by decide)) (hA 202 (by decide)) (hA 204 (by decide)) (hO 205 (by decide)) (hB 40 (by decide)) (hB 41 (by decide)) (hB 42 (by decide)) (hB 43 (by decide)) (hB 44 (by decide)) h.hm), ta, (cg_ap (hC 4 (by decide)) (hN 10 (by decide)) (hA 1005 (by decide)) (hA 1001 (by decide)) (hA 1003 (by decide)) (hA 1004 (by decide)) (hO 501 (by decide)) (hO 203 (by decide)) (hO 1002 (by decide)) (hO 902 (by decide)) h.ap), (cg_ro (hA 801 (by decide)) (hA 802 (by decide)) (hL 800 (by decide)) (hA 1005 (by decide)) (hN 10 (by decide)) (hB 53 (by decide)) (hB 55 (by decide)) (hB 56 (by decide)) (hB 58 (by decide)) (hB 59 (by decide)) h.ro), (cg_st (hN 7 (by decide)) (hA 705 (by decide)) (hN 5 (by decide)) (hC 0 (by decide)) (hL 704 (by decide)) (hA 403 (by decide)) h.st), (cg_bx (hN 7 (by decide)) (hA 705 (by decide)) (hA 706 (by decide)) (hC 1112 (by decide)) (hA 302 (by decide)) (hA 303 (by decide)) (hA 304 (by decide)) (hO 501 (by decide)) (hN 5 (by decide)) (hB 34 (by decide)) (hB 35 (by decide)) h.bx)⟩
/-- a task that has ended: what is loaded of it counts no more -/
theorem Rel.loadN (h : Rel B k S w) {t : Nat} (hk : ¬ onT S t) : Rel B k (pA 1006 t 1 S) w := by
  have hA : ∀ f, f ≠ 1006 → zA (pA 1006 t 1 S) f = zA S f := fun f hf => fAA hf
  have hB : ∀ f, True → mA w f = mA w f := fun f hf => rfl
  have hO : ∀ f, True → zO (pA 1006 t 1 S) f = zO S f := fun f _ => rfl
  have hL : ∀ f, True → zL (pA 1006 t 1 S) f = zL S f := fun f _ => rfl
  have hC : ∀ f, True → zC (pA 1006 t 1 S) f = zC S f := fun f _ => rfl
  have hN : ∀ f, True → zN (pA 1006 t 1 S) f = zN S f := fun f _ => rfl
  have hM : zM (pA 1006 t 1 S) = zM S := rfl
  have hI : ∀ f, True → mI w f = mI w f := fun f _ => rfl
  have h6 : ∀ q, zA (pA 1006 t 1 S) 1006 q = if q = t then 1 else zA S 1006 q := fun q => sAA
  have ta : g_ta (pA 1006 t 1 S) w := by
    obtain ⟨b1, b2, b3, b4⟩ := h.ta
    unfold onT at hk
    unfold g_ta onT lqS
    rw [hN 10 trivial, hL 1108 trivial, hA 1000 (by decide), hA 1001 (by decide), hA 1003 (by decide), hA 1004 (by decide), hA 1005 (by decide), hO 1002 trivial, hN 2 trivial, hO 203 trivial, hN 5 trivial, hO 205 trivial, hO 200 trivial, hO 201 trivial, hA 202 (by decide), hN 7 trivial, hL 704 trivial, hL_eq, hL 1107 trivial]
    refine ⟨b1, b2, b3, fun q hq => ?_⟩
    obtain ⟨c1, c2, c3, c4, c5, c6, c7, x, l, d1, d2, d3, d4, d5, d6, d7, d8⟩ := b4 q hq
    refine ⟨c1, c2, c3, c4, c5, c6, c7, x, l, d1, d2, d3, d4, d5, d6, fun hon => ?_, ?_⟩
    · obtain ⟨e1, e2, e3, e4⟩ := d7 hon
      have e : ¬ q = t := fun e => hk (e ▸ hon)
      rw [h6, if_neg e]; exact ⟨e1, e2, e3, e4⟩
    · rcases d8 with d8 | d8 | ⟨f1, f2, f3, f4⟩
      · exact Or.inl d8
      · exact Or.inr (Or.inl d8)
      · refine Or.inr (Or.inr ⟨f1, f2, fun hon => ?_, f4⟩)
        have e : ¬ q = t := fun e => hk (e ▸ hon)
        rw [h6, if_neg e]; exact f3 hon
  exact ⟨(cg_sl (hA 900 (by decide)) (hA 901 (by decide)) (hA 903 (by decide)) (hA 904 (by decide)) (hO 902 (by decide)) (hB 4 (by decide)) (hB 5 (by decide)) (hB 6 (by decide)) (hB 7 (by decide)) (hB 8 (by decide)) h.sl), (cg_it (hA 300 (by decide)) (hA 301 (by decide)) (hA 302 (by decide)) (hA 303 (by decide)) (hA 304 (by decide)) (hA 305 (by decide)) (hB 9 (by decide)) (hB 10 (by decide)) (hB 11 (by decide)) (hB 12 (by decide)) (hB 13 (by decide)) h.it), (cg_ba (hA 1115 (by decide)) (hB 14 (by decide)) h.ba), (cg_sc (hA 1116 (by decide)) (hA 1118 (by decide)) (hA 1117 (by decide)) (hI 1 (by decide)) (hI 2 (by decide)) (hI 3 (by decide)) h.sc), (cg_lo (hN 5 (by decide)) (hL 1103 (by decide)) (hA 500 (by decide)) (hA 502 (by decide)) (hA 503 (by decide)) (hO 501 (by decide)) (hI 15 (by decide)) (hB 16 (by decide)) (hB 17 (by decide)) (hB 18 (by decide)) h.lo), (cg_be (hL 1104 (by decide)) (hN 5 (by decide)) (hA 502 (by decide)) h.be), (cg_no (hN 6 (by decide)) (hL 1105 (by decide)) (hO 600 (by decide)) (hA 601 (by decide)) (hA 602 (by decide)) (hI 22 (by decide)) (hB 23 (by decide)) (hB 24 (by decide)) (hB 25 (by decide)) h.no), (cg_ca (hC 1110 (by decide)) (hB 26 (by decide)) h.ca), (cg_aw (hC 1111 (by decide)) (hN 7 (by decide)) (hA 705 (by decide)) (hB 33 (by decide)) h.aw), (cg_or (hN 7 (by decide)) (hN 72 (by decide)) (hL 1106 (by decide)) (hA 700 (by decide)) (hA 701 (by decide)) (hA 702 (by decide)) (hA 703 (by decide)) (hA 705 (by decide)) (hI 27 (by decide)) (hB 28 (by decide)) (hB 29 (by decide)) (hB 30 (by decide)) (hB 31 (by decide)) (hB 32 (by decide)) h.or), (cg_li (hN 7 (by decide)) (hL 704 (by decide)) (hN 4 (by decide)) (hO 400 (by decide)) (hA 401 (by decide)) (hA 402 (by decide)) (hA 403 (by decide)) (hB 31 (by decide)) (hB 36 (by decide)) (hB 37 (by decide)) (hB 38 (by decide)) h.li), (cg_bk (hC 0 (by decide)) (hC 1 (by decide)) (hN 5 (by decide)) (hO 501 (by decide)) (hB 19 (by decide)) h.bk), (cg_nn (hC 0 (by decide)) (hC 2 (by decide)) h.nn), (cg_tr (hC 2 (by decide)) (hC 0 (by decide)) (hB 20 (by decide)) h.tr), (cg_db (hC 5 (by decide)) (hB 21 (by decide)) h.db), (cg_mv (hA 7 (by decide)) (hN 60 (by decide)) hM (hC 0 (by decide)) h.mv), (cg_ho (hL 1107 (by decide)) (hN 2 (by decide)) (hA 204 (by decide)) (hN 5 (by decide)) (hO 203 (by decide)) (hA 202 (by decide)) (hO 200 (by decide)) (hO 201 (by decide)) (hO 205 (by decide)) (hN 7 (by decide)) (hL 704 (by decide)) (hA 705 (by decide)) (hN 10 (by decide)) (hO 1002 (by decide)) (hA 1005 (by decide)) (hA 1004 (by decide)) h.ho), (cg_hs (hC 3 (by decide)) (hL 1107 (by decide)) (hA 202 (by decide)) (hO 203 (by decide)) (hA 204 (by decide)) (hC 0 (by decide)) (hN 4 (by decide)) (hA 402 (by decide)) (hO 201 (by decide)) h.hs), (cg_hm (hI 39 (by decide)) (hL 1107 (by decide)) (hO 200 (by decide)) (hO 201 (by decide)) (hO 203 (by decide)) (hL 704 (by decide)) (hA 202 (by decide)) (hA 204 (by decide)) (hO 205 (by decide)) (hB 40 (by decide)) (hB 41 (by decide)) (hB 42 (by decide)) (hB 43 (by decide)) (hB 44 (by decide)) h.hm), ta, (cg_ap (hC 4 (by decide)) (hN 10 (by decide)) (hA 1005 (by decide)) (hA 1001 (by decide)) (hA 1003 (by decide)) (hA 1004 (by decide)) (hO 501 (by decide)) (hO 203 (by decide)) (hO 1002 (by decide)) (hO 902 (by decide)) h.ap), (cg_ro (hA 801 (by decide)) (hA 802 (by decide)) (hL 800 (by decide)) (hA 1005 (by decide)) (hN 10 (by decide)) (hB 53 (by decide)) (hB 55 (by decide)) (hB 56 (by decide)) (hB 58 (by decide)) (hB 59 (by decide)) h.ro), (cg_st (hN 7 (by decide)) (hA 705 (by decide)) (hN 5 (by decide)) (hC 0 (by decide)) (hL 704 (by decide)) (hA 403 (by decide)) h.st), (cg_bx (hN 7 (by decide)) (hA 705 (by decide)) (hA 706 (by decide)) (hC 1112 (by decide)) (hA 302 (by decide)) (hA 303 (by decide)) (hA 304 (by decide)) (hO 501 (by decide)) (hN 5 (by decide)) (hB 34 (by decide)) (hB 35 (by decide)) h.bx)⟩
/-- which robot is in an aisle -/
theorem e_robotIn (a : Int32) : ∃ o : Option Nat, (f_X11_robotIn a).1 S = some (o, S) ∧ (o = none → ∀ q, q < 3 → ¬ zA S 801 q = a) ∧ ∀ p, o = some p → p < 3 ∧ zA S 801 p = a := by
  have key := m_find (fun f j => f_X11_robotIn_11 f a (nI (aLn 1102)) j) S 3 (fun q => zA S 801 q = a) (fun q => some (some q, S)) (some (none, S)) (fun f q hq r => ?_) (fun f q hq r => ?_) (fun f => ?_) FU (FU_gt (by omega))
  · have e : (f_X11_robotIn a).1 S = (f_X11_robotIn_11 FU a (nI (aLn 1102)) 0).1 S := rfl
    rw [e]
    rcases key with ⟨q, q1, q2, q3, q4⟩ | ⟨q1, q2⟩
    · refine ⟨some q, q4, fun e => (by cases e), fun p e => ?_⟩
      have : q = p := Option.some.inj e
      subst this
      exact ⟨q1, q2⟩
    · exact ⟨none, q2, fun _ => q1, fun p e => (by cases e)⟩
  · simp only [f_X11_robotIn_11, r_mb, bnd_s, r_mrd, r_mbo, r_mret, r_mthr, r_wA, r_wO, r_madd, r_mput, r_mopt, r_mcn, r_mcs, ite_f, e_isWithin, e_isSlot, e_isItem, e_isGroup, e_isRobot, e_isLot, e_isNotice, e_isOrder, e_isTask, bI_t, bI_f, i10, i00, i01, i11, i20, i30, ↓reduceIte, nI_ge (show q < aLn 1102 from hq) (show aLn 1102 < 2 ^ 31 by decide), r_mnI (show q < aLn 1102 from hq) (show aLn 1102 < 2 ^ 31 by decide), nI_clamp (show q < 2 ^ 31 by omega), r]
  · simp only [f_X11_robotIn_11, r_mb, bnd_s, r_mrd, r_mbo, r_mret, r_mthr, r_wA, r_wO, r_madd, r_mput, r_mopt, r_mcn, r_mcs, ite_f, e_isWithin, e_isSlot, e_isItem, e_isGroup, e_isRobot, e_isLot, e_isNotice, e_isOrder, e_isTask, bI_t, bI_f, i10, i00, i01, i11, i20, i30, ↓reduceIte, nI_ge (show q < aLn 1102 from hq) (show aLn 1102 < 2 ^ 31 by decide), r_mnI (show q < aLn 1102 from hq) (show aLn 1102 < 2 ^ 31 by decide), nI_clamp (show q < 2 ^ 31 by omega), r, nI_1]
  · simp only [f_X11_robotIn_11, r_mb, bnd_s, r_mrd, r_mbo, r_mret, r_mthr, r_wA, r_wO, r_madd, r_mput, r_mopt, r_mcn, r_mcs, ite_f, e_isWithin, e_isSlot, e_isItem, e_isGroup, e_isRobot, e_isLot, e_isNotice, e_isOrder, e_isTask, bI_t, bI_f, i10, i00, i01, i11, i20, i30, ↓reduceIte, show nI (aLn 1102) ≤ nI 3 by decide]
theorem k_heldBy {r : Nat} (hr : r < 3) (a : Int32) : ((∃ q, q < 3 ∧ q ≠ r ∧ mA w 55 q = a) → g_X12_isHeldByOther (nI r) a w = some (1, w)) ∧ ((∀ q, q < 3 → ¬ (q ≠ r ∧ mA w 55 q = a)) → g_X12_isHeldByOther (nI r) a w = some (0, w)) := by
  have key := g_flag (fun f c j => g_X12_isHeldByOther_5 f (nI r) a c j) w 3 (fun q => q ≠ r ∧ mA w 55 q = a) 0 1 (fun c => some (c, w)) (fun f q hq r1 => ?_) (fun f q hq r1 => ?_) (fun f q hq => ?_) (fun f c hc => ?_) FU (FU_gt (by omega))
  · obtain ⟨k1, k2, -⟩ := key
    exact ⟨fun ⟨q, q1, q2⟩ => k1 ⟨q, q1, q2⟩, fun q => k2 q⟩
  · obtain ⟨r1, r2⟩ := r1
    have hne : ¬ nI q = nI r := fun e => r1 ((nI_eq (by omega) (by omega)).mp e)
    have h3 : ¬ (3 : Int32) ≤ nI q := nI_ge (b := 3) hq (by decide)
    simp only [g_X12_isHeldByOther_5, kif, r_gb, gbn_s, r_grd, r_gbo, r_gret, r_gst, k_isIn, k_isSlot, k_isItem, k_isGroup, k_isRobot, k_are, k_holds0, k_holds1, k_holds2, k_holds3, k_bit, k_less, bI_t, bI_f, i10, i00, i01, i11, i20, i30, ↓reduceIte, h3, hne, r_gnI (show q < mL 55 from hq) (show mL 55 < 2 ^ 31 by decide), nI_clamp (show q < 2 ^ 31 by omega), r2, nI_1]
  · have h3 : ¬ (3 : Int32) ≤ nI q := nI_ge (b := 3) hq (by decide)
    by_cases e : q = r
    · subst e
      simp only [g_X12_isHeldByOther_5, kif, r_gb, gbn_s, r_grd, r_gbo, r_gret, r_gst, k_isIn, k_isSlot, k_isItem, k_isGroup, k_isRobot, k_are, k_holds0, k_holds1, k_holds2, k_holds3, k_bit, k_less, bI_t, bI_f, i10, i00, i01, i11, i20, i30, ↓reduceIte, h3, nI_1]
    · have hne : ¬ nI q = nI r := fun e2 => e ((nI_eq (by omega) (by omega)).mp e2)
      have r2 : ¬ mA w 55 q = a := fun e2 => r1 ⟨e, e2⟩
      simp only [g_X12_isHeldByOther_5, kif, r_gb, gbn_s, r_grd, r_gbo, r_gret, r_gst, k_isIn, k_isSlot, k_isItem, k_isGroup, k_isRobot, k_are, k_holds0, k_holds1, k_holds2, k_holds3, k_bit, k_less, bI_t, bI_f, i10, i00, i01, i11, i20, i30, ↓reduceIte, h3, hne, r_gnI (show q < mL 55 from hq) (show mL 55 < 2 ^ 31 by decide), nI_clamp (show q < 2 ^ 31 by omega), r2, nI_1]
  · have h3 : ¬ (3 : Int32) ≤ nI q := nI_ge (b := 3) hq (by decide)
    simp only [g_X12_isHeldByOther_5, kif, r_gb, gbn_s, r_grd, r_gbo, r_gret, r_gst, k_isIn, k_isSlot, k_isItem, k_isGroup, k_isRobot, k_are, k_holds0, k_holds1, k_holds2, k_holds3, k_bit, k_less, bI_t, bI_f, i10, i00, i01, i11, i20, i30, ↓reduceIte, h3, nI_1]
  · rcases hc with e | e
    · subst e; simp only [g_X12_isHeldByOther_5, kif, r_gb, gbn_s, r_grd, r_gbo, r_gret, r_gst, k_isIn, k_isSlot, k_isItem, k_isGroup, k_isRobot, k_are, k_holds0, k_holds1, k_holds2, k_holds3, k_bit, k_less, bI_t, bI_f, i10, i00, i01, i11, i20, i30, ↓reduceIte, show (3 : Int32) ≤ nI 3 by decide, gmd]; rfl
    · subst e; simp only [g_X12_isHeldByOther_5, kif, r_gb, gbn_s, r_grd, r_gbo, r_gret, r_gst, k_isIn, k_isSlot, k_isItem, k_isGroup, k_isRobot, k_are, k_holds0, k_holds1, k_holds2, k_holds3, k_bit, k_less, bI_t, bI_f, i10, i00, i01, i11, i20, i30, ↓reduceIte, show (3 : Int32) ≤ nI 3 by decide, gmd]; rfl
end
