/-! a wave: the class -/
section
variable {B k : Nat} {S T S0 : Ss} {w v : MS}
theorem cds_cnt (xs : List Nat) (q : Nat → Bool) : sm (List.range xs.length) (fun i => if q ((xs[i]?).getD 0) = true then (1 : Int32) else 0) = nI (xs.filter q).length := by
  rw [sm_idx (xs := xs) (f := fun t => if q t = true then (1 : Int32) else 0) rfl (fun i x hx => by rw [hx]; rfl), sm_cnt]
theorem Rel.eHoldW (h : Rel B k S w) (z : Int32) : (f_X11_holdingsForWave z).1 S = some (nI ((hL S).filter (cdS S z)).length, S) := by
  have hlen := h.hlen
  have key := m_sum (fun f a j => f_X11_holdingsForWave_4 f z a j) (fun a => some (a, S)) S (hL S).length (fun i => if cdS S z (((hL S)[i]?).getD 0) = true then (1 : Int32) else 0) (fun f a i hi => ?_) (fun f a => ?_) 0 FU (FU_gt (by omega))
  · rw [Int32.zero_add, cds_cnt] at key
    exact key
  · have hx : (hL S)[i]? = some ((hL S)[i]'hi) := List.getElem?_eq_getElem hi
    have hxm := List.mem_of_getElem? hx
    have hx1 : (zL S 1107 0)[i]? = some ((hL S)[i]'hi) := hx
    rw [hx]
    show _ = (f_X11_holdingsForWave_4 f z (a + if cdS S z ((hL S)[i]'hi) = true then (1 : Int32) else 0) (nI (i + 1))).1 S
    generalize (hL S)[i]'hi = X at hxm hx1
    have ei := h.eIsFor hxm z
    cases q : cdS S z X with
    | true =>
      rw [q] at ei
      simp only [f_X11_holdingsForWave_4, r_mb, bnd_s, r_mrd, r_mbo, r_mret, r_mthr, r_wA, r_wO, r_madd, r_mput, r_mopt, r_mcn, r_mcs, ite_f, e_isWithin, e_isSlot, e_isItem, e_isGroup, e_isRobot, e_isLot, e_isNotice, e_isOrder, e_isTask, bI_t, bI_f, i10, i00, i01, i11, i20, i30, ↓reduceIte, show (zL S 1107 0).length = (hL S).length from rfl, nI_ge hi (show (hL S).length < 2 ^ 31 by omega), mlget, lAt_n (show i < 2 ^ 31 by omega) hx1, ei, nI_1]
    | false =>
      rw [q] at ei
      simp only [f_X11_holdingsForWave_4, r_mb, bnd_s, r_mrd, r_mbo, r_mret, r_mthr, r_wA, r_wO, r_madd, r_mput, r_mopt, r_mcn, r_mcs, ite_f, e_isWithin, e_isSlot, e_isItem, e_isGroup, e_isRobot, e_isLot, e_isNotice, e_isOrder, e_isTask, bI_t, bI_f, i10, i00, i01, i11, i20, i30, ↓reduceIte, show (zL S 1107 0).length = (hL S).length from rfl, nI_ge hi (show (hL S).length < 2 ^ 31 by omega), mlget, lAt_n (show i < 2 ^ 31 by omega) hx1, ei, nI_1, Int32.add_zero, Bool.false_eq_true]
  · simp only [f_X11_holdingsForWave_4, r_mb, bnd_s, r_mrd, r_mbo, r_mret, r_mthr, r_wA, r_wO, r_madd, r_mput, r_mopt, r_mcn, r_mcs, ite_f, e_isWithin, e_isSlot, e_isItem, e_isGroup, e_isRobot, e_isLot, e_isNotice, e_isOrder, e_isTask, bI_t, bI_f, i10, i00, i01, i11, i20, i30, ↓reduceIte, show (zL S 1107 0).length = (hL S).length from rfl, Int32.le_refl]
theorem FQ.pks {x : Nat} (g : PKS S T x) : FQ S T := (FQ.rf S).pk g
/-- the candidates, when one got its task -/
theorem cds_pk {x : Nat} (g : PKS S T x) (z : Int32) (hn : (hL S).Nodup) {pre suf : List Nat} (hC : (hL S).filter (cdS S z) = pre ++ x :: suf) : (hL T).filter (cdS T z) = pre ++ suf := by
  have q := FQ.pks g
  have eH : hL T = hL S := by unfold hL; rw [q.1]
  have nd : (pre ++ x :: suf).Nodup := by rw [← hC]; exact hn.sublist List.filter_sublist
  have e1 : (hL T).filter (cdS T z) = ((hL S).filter (cdS S z)).filter fun y => decide (¬ y = x) := by
    rw [eH, List.filter_filter]
    refine List.filter_congr fun y _ => ?_
    by_cases e : y = x
    · have : cdS T z y = false := by
        cases ho : zO T 200 y with
        | none => exact cdS_n ho
        | some o =>
          rw [cdS_s ho, e]
          exact decide_eq_false fun r => g.2.2.2.1 r.1
      rw [this]; simp [e]
    · have : cdS T z y = cdS S z y := by unfold cdS; rw [q.2.1, g.2.2.1 y e]
      rw [this]; simp [e]
  rw [List.nodup_append] at nd
  obtain ⟨n1, n2, n3⟩ := nd
  obtain ⟨n4, n5⟩ := List.nodup_cons.mp n2
  rw [e1, hC, List.filter_append, List.filter_cons_of_neg (by simp)]
  rw [List.filter_eq_self.mpr fun y hy => ?_, List.filter_eq_self.mpr fun y hy => ?_]
  · exact decide_eq_true fun e => n4 (e ▸ hy)
  · exact decide_eq_true fun e => n3 y hy x (List.mem_cons_self ..) e
end
theorem waveC {B k r : Nat} (hr : r < 3) (z : Int32) {N : Nat} (hN : N < 2 ^ 31) : ∀ d i, i + d = N → ∀ (S : Ss) (w : MS) (T : Ss) (v : MS), Rel B k S w → ((hL S).filter (cdS S z)).length = d → JC B k r (Wr (kR S) ((hL S).filter (cdS S z)) 1728) S w T v → ∀ f, d < f → (f_X11_wave_65 f (nI r) z (nI N) (nI i)).1 S = some ((0, nI N), T)
  | 0, i, hid, S, w, T, v, h, hC, hJ, f, hf => by
    obtain ⟨f, rfl⟩ : ∃ f', f = f' + 1 := ⟨f - 1, by omega⟩
    have e : i = N := by omega
    subst e
    rw [List.length_eq_zero_iff.mp hC, Wr_nil] at hJ
    rw [hJ.1]
    simp only [f_X11_wave_65, r_mb, bnd_s, r_mrd, r_mbo, r_mret, r_mthr, r_wA, r_wO, r_madd, r_mput, r_mopt, r_mcn, r_mcs, ite_f, e_isWithin, e_isSlot, e_isItem, e_isGroup, e_isRobot, e_isLot, e_isNotice, e_isOrder, e_isTask, bI_t, bI_f, i10, i00, i01, i11, i20, i30, ↓reduceIte, Int32.le_refl]
  | d + 1, i, hid, S, w, T, v, h, hC, hJ, f, hf => by
    obtain ⟨f, rfl⟩ : ∃ f', f = f' + 1 := ⟨f - 1, by omega⟩
    have hne : ¬ nI N ≤ nI i := nI_ge (by omega) hN
    rcases h.eNextW z with ⟨c1, -⟩ | ⟨x, hx, c1, pre, suf, c2, c3, c4⟩
    · rw [c1] at hC; cases hC
    · have hxC : x ∈ (hL S).filter (cdS S z) := by rw [c2]; exact List.mem_append_right _ (List.mem_cons_self ..)
      obtain ⟨o, ho, -⟩ := cdS_o (List.mem_filter.mp hxC).2
      have kb := (h.kRB hx ho).2.2.2.2.2.2.2.2
      rw [c2, Wr_hd c3 c4 kb 1728 (Nat.le_refl _), if_neg (by omega)] at hJ
      obtain ⟨S1, w1, P, hJ1⟩ := hJ
      have P' := P
      obtain ⟨p1, -, p3, p4, -⟩ := P'
      have eC := cds_pk p4 z h.ho.1 c2
      have ek := (FQ.pks p4).kRe
      have run : (f_X11_wave_65 (f + 1) (nI r) z (nI N) (nI i)).1 S = (f_X11_wave_65 f (nI r) z (nI N) (nI (i + 1))).1 S1 := by
        rw [← p1]
        simp only [f_X11_wave_65, ite_f, hne, ↓reduceIte, r_mb, c1, bnd_s, r_mcs, r_mnI (show r < aLn 1102 from hr) (show aLn 1102 < 2 ^ 31 by decide), nI_clamp (show r < 2 ^ 31 by omega), nI_1]
      rw [run]
      refine waveC hr z hN d (i + 1) (by omega) S1 w1 T v p3 ?_ ?_ f (by omega)
      · rw [eC]
        rw [c2] at hC
        simp only [List.length_append, List.length_cons] at hC ⊢
        omega
      · rw [eC, ek]; exact hJ1
