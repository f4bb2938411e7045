/-! the class: what is there is less -/
section
variable {S T U S1 : Ss} {w v : MS}
theorem CCv.bk {xs : List Nat} {r : Int32} (hA : ∀ f, f ≠ 7 → zA S1 f = zA S f) (hO : zO S1 = zO S) (hL1 : zL S1 = zL S) (h : CCv S1 T xs r) : CCv S T xs r := by
  unfold CCv at h ⊢
  rw [hA 204 (by decide), hA 1004 (by decide), hA 1005 (by decide), hO, hL1] at h
  exact h
theorem cutL_cg {s l : Nat} {f0 : Option Nat} (hH : hL T = hL S) (hO : zO T = zO S) (hA : zA T 202 = zA S 202) : ∀ n, cutL T s l f0 n = cutL S s l f0 n
  | 0 => rfl
  | n + 1 => by
    have e : sel T s l f0 n = sel S s l f0 n := by funext x; unfold sel tnN; rw [hO, hA]
    show _ ++ _ = _ ++ _
    rw [cutL_cg hH hO hA n, hH, e]
theorem co_cg (hA : ∀ f, f = 300 ∨ f = 500 ∨ f = 202 ∨ f = 204 ∨ f = 402 ∨ f = 700 ∨ f = 1001 ∨ f = 1003 → zA T f = zA S f) (hO : zO T = zO S) (hL1 : zL T 1107 = zL S 1107) (hC : zC T 3 = zC S 3 ∧ zC T 4 = zC S 4) (hN : ∀ f, f = 4 ∨ f = 5 ∨ f = 7 ∨ f = 10 → zN T f = zN S f) (g : CO S) : CO T := by
  obtain ⟨g1, g2, g3, g4, g5, c1, c2, c3⟩ := g
  have hi : ∀ l, itS T l = itS S l := fun l => by unfold itS; rw [hO]
  have eH : hL T = hL S := by unfold hL; rw [hL1]
  have wf : ∀ x, hwf S x → hwf T x := fun x q => by
    unfold hwf
    simp only [hi]
    rw [hO, hA 500 (by decide), hA 202 (by decide), hA 700 (by decide), hA 1001 (by decide), hA 1003 (by decide), hN 4 (by decide), hN 5 (by decide), hN 7 (by decide), hN 10 (by decide)]
    exact q
  have e1 : ∀ p l, hpc T p l = hpc S p l := fun p l => by funext z; unfold hpc; rw [hA 202 (by decide), hO, hA 204 (by decide)]
  have e2 : ∀ j, lnH T j = lnH S j := fun j => by funext z; unfold lnH; rw [hO, hA 204 (by decide)]
  have e3 : ∀ s i, apH T s i = apH S s i := fun s i => by funext z; unfold apH; simp only [hi]; rw [hA 1001 (by decide), hA 1003 (by decide), hO, hA 204 (by decide)]
  refine ⟨by rw [hA 300 (by decide)]; exact g1, by rw [hN 5 (by decide)]; exact g2, by rw [eH]; exact g3, by rw [eH]; exact g4, fun x hx => ?_, ?_⟩
  · rw [eH] at hx
    rw [hA 204 (by decide)]
    exact ⟨wf x (g5 x hx).1, (g5 x hx).2⟩
  · unfold CH
    simp only [e1, e2, e3]
    rw [eH, hC.1, hC.2, hN 4 (by decide), hA 402 (by decide)]
    exact ⟨c1, c2, c3⟩
theorem Rel.eBel {B k : Nat} (h : Rel B k S w) (hk : k < 1024) {s l : Nat} (hs : s < 18) (hl : l < zN S 5) : ∃ T, (f_X0_believeTruth (nI s) l).1 S = some ((), T) ∧ WR S T none (some s) l (zC S 2 (12 * s + l) - zC S 0 (12 * s + l)) k := by
  have h12 := h.lo.1
  obtain ⟨b1, -, -, -, b5, b6, -⟩ := h.lo.2.2.2.1 l hl
  obtain ⟨T, t1, t2⟩ := e_write (S := S) (k := k) (a := none) (b := some s) (l := l) (zC S 2 (12 * s + l) - zC S 0 (12 * s + l)) h.hI b1 b5 b6 h.mvAr hk (fun q hq => by cases hq) (fun q hq => by cases hq; omega) (show l < 12 by omega)
  have t1' : (f_X0_write (-1) (nI s) l (zC S 2 (12 * s + l) - zC S 0 (12 * s + l))).1 S = some ((), T) := t1
  refine ⟨T, ?_, t2⟩
  simp only [f_X0_believeTruth, r_mb, bnd_s, r_mrd, r_mbo, r_mret, r_mthr, r_wA, r_wO, r_madd, r_mput, r_mopt, r_mcn, r_mcs, ite_f, e_isWithin, e_isSlot, e_isItem, e_isGroup, e_isRobot, e_isLot, e_isNotice, e_isOrder, e_isTask, bI_t, bI_f, i10, i00, i01, i11, i20, i30, ↓reduceIte, b1, cAt_in (S := S) (r := 2) (p := s) (l := l) (show l < 12 by omega) (show s * 12 + l < 336 by omega), cAt_in (S := S) (r := 0) (p := s) (l := l) (show l < 12 by omega) (show s * 12 + l < 336 by omega), show cWd 0 * s + l = 12 * s + l from rfl, show cWd 2 * s + l = 12 * s + l from rfl, t1']
theorem Rel.eShort {B k : Nat} (h : Rel B k S w) (hk : k < 1024) {s l : Nat} (hs : s < 18) (hl : l < zN S 5) (f0 : Option Nat) (hf0 : ∀ x, f0 = some x → x ∈ hL S) : ∃ S1 T, WR S S1 none (some s) l (zC S 2 (12 * s + l) - zC S 0 (12 * s + l)) k ∧ (f_X11_shorten (nI s) l f0).1 S = some ((), drS T) ∧ CO T ∧ SF S1 T ∧ CCv S T (cutL S s l f0 9) (zC S 2 (12 * s + l)) := by
  have h12 := h.lo.1
  have h8 := h.or.1
  obtain ⟨b1, -, -, -, b5, b6, -⟩ := h.lo.2.2.2.1 l hl
  obtain ⟨S1, t1, t2⟩ := h.eBel hk hs hl
  have t2' := t2
  obtain ⟨wA, wO, wL, wP, wC, wN, -, w0, -⟩ := t2
  have g1 : CO S1 := co_cg (fun f hf => wA f (by omega)) wO (by rw [wL]) ⟨wC 3 (by decide), wC 4 (by decide)⟩ (fun f hf => wN f (by omega)) h.co
  have hH : hL S1 = hL S := by unfold hL; rw [wL]
  have h7 : zN S1 7 ≤ 8 := by rw [wN 7 (by decide)]; exact h8
  have e0 : zC S1 0 (12 * s + l) = zC S 2 (12 * s + l) := by
    rw [w0]
    show _ + ((0 : Int32) + if 12 * s + l = 12 * s + l then _ else 0) = _
    rw [if_pos rfl, Int32.zero_add, Int32.add_comm, Int32.sub_eq_add_neg, Int32.add_assoc, Int32.add_left_neg, Int32.add_zero]
  have hr : 0 ≤ (zC S 2 (12 * s + l)).toInt := (h.nn.2.2 _ (by omega)).1
  have hf1 : ∀ x, f0 = some x → x ∈ hL S1 := fun x hx => by rw [hH]; exact hf0 x hx
  have p204 : zA S1 204 = zA S 204 := wA 204 (by decide)
  have eL := cutL_cg (T := S1) (S := S) (s := s) (l := l) (f0 := f0) hH wO (wA 202 (by decide))
  have run : (f_X11_shorten (nI s) l f0).1 S = (mcase f0 (f_X11_shorten_45 FU (nI s) l none (zC S 2 (12 * s + l)) 0) fun i68 => mb (f_X11_cut i68 (zC S 2 (12 * s + l))) fun x95 => mbo (zC S 2 (12 * s + l) - x95 : Int32) fun x97 => f_X11_shorten_45 FU (nI s) l (some i68) x97 0).1 S1 := by
    simp only [f_X11_shorten, r_mb, t1, bnd_s, r_mrd, r_mbo, wA 500 (by decide), b1, cAt_in (S := S1) (r := 0) (p := s) (l := l) (show l < 12 by omega) (show s * 12 + l < 336 by omega), show cWd 0 * s + l = 12 * s + l from rfl, e0]
  have key : ∀ T, CO T → SF S1 T → CCv S1 T (cutL S1 s l f0 0) (zC S 2 (12 * s + l)) → (f_X11_shorten (nI s) l f0).1 S = (f_X11_shorten_45 FU (nI s) l f0 (rcut (zA S1 204) (cutL S1 s l f0 0) (zC S 2 (12 * s + l))) (nI 0)).1 T → ∃ S1 T, WR S S1 none (some s) l (zC S 2 (12 * s + l) - zC S 0 (12 * s + l)) k ∧ (f_X11_shorten (nI s) l f0).1 S = some ((), drS T) ∧ CO T ∧ SF S1 T ∧ CCv S T (cutL S s l f0 9) (zC S 2 (12 * s + l)) := fun T k1 k2 k3 k4 => by
    obtain ⟨U, u1, u2, u3, u4⟩ := g1.sh45 h7 hf1 hr 9 0 rfl FU (FU_gt (by decide)) T k1 k2 k3
    refine ⟨S1, U, t2', k4.trans u1, u2, u3, ?_⟩
    rw [eL] at u4
    exact u4.bk wA wO wL
  cases hf : f0 with
  | none =>
    rw [← hf]
    subst hf
    exact key S1 g1 (SF.rf S1) (CCv.rf _) (by rw [run, r_mcn]; rfl)
  | some x0 =>
    rw [← hf]
    obtain ⟨U, u1, u2, u3, u4⟩ := g1.cutS (xs := []) (r := zC S 2 (12 * s + l)) g1 (SF.rf S1) (CCv.rf _) (hf1 x0 hf) (by simp) (fun x hx => absurd hx (by simp)) hr
    have u1' : (f_X11_cut x0 (zC S 2 (12 * s + l))).1 S1 = some (mn (zA S1 204 x0) (zC S 2 (12 * s + l)), U) := u1
    subst hf
    refine key U u4 u2 u3 ?_
    rw [run, r_mcs, r_mb, u1', bnd_s, r_mbo]
    rfl
end
