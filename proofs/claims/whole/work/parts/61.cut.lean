section
variable {S T : Ss} {w v : MS}
theorem I_ssub (a b : Int32) : a - (a - b) = b := by
  rw [Int32.sub_eq_add_neg a b, ← Int32.sub_sub, Int32.sub_self, Int32.zero_sub, Int32.neg_neg]
/-- the class's holdings are in order -/
def CO (S : Ss) : Prop := (∀ i, i < 6 → zA S 300 i = nI i) ∧ zN S 5 ≤ 12 ∧ (hL S).Nodup ∧ (hL S).length < 90000 ∧ (∀ h, h ∈ hL S → hwf S h ∧ tI (zA S 204 h) 0 99) ∧ CH S
theorem SF.co (h : SF S T) (hl : (hL T).Sublist (hL S)) (hv : ∀ x, x ∈ hL T → tI (zA T 204 x) 0 99) (hc : CH T) (g : CO S) : CO T := by
  obtain ⟨g1, g2, g3, g4, g5, g6⟩ := g
  refine ⟨by rw [h.1 300 (by decide)]; exact g1, by rw [h.2.2.2.2.2.2]; exact g2, g3.sublist hl, Nat.lt_of_le_of_lt hl.length_le g4, fun x hx => ⟨h.wf (g5 x (hl.subset hx)).1, hv x hx⟩, hc⟩
/-- dropping what is empty -/
def drS (S : Ss) : Ss := pL 1107 0 ((hL S).filter fun h => decide (0 < zA S 204 h)) (zP S 1107 0) S
theorem e_drop10 (H : List Nat) (hH : H.length < 2 ^ 31) : ∀ k, k ≤ H.length → ∀ (Y : List Nat) (S : Ss) (f : Nat), k < f → zL S 1107 0 = H.take k ++ Y → (f_X11_dropEmptyHoldings_10 f (nI k + (-1))).1 S = some ((), pL 1107 0 ((H.take k).filter (fun h => decide (0 < zA S 204 h)) ++ Y) (zP S 1107 0) S) := by
  intro k
  induction k with
  | zero =>
    intro _ Y S f hf hl
    obtain ⟨f, rfl⟩ : ∃ f', f = f' + 1 := ⟨f - 1, by omega⟩
    have e := pL_id (S := S) 1107 0
    rw [hl] at e
    rw [List.take_zero, List.nil_append] at e
    simp only [f_X11_dropEmptyHoldings_10, r_mrd, ite_f, show nI 0 + (-1) < (0 : Int32) by decide, ↓reduceIte, r_mret]
    rw [List.take_zero, List.filter_nil, List.nil_append, e]
  | succ k ih =>
    intro hk Y S f hf hl
    obtain ⟨f, rfl⟩ : ∃ f', f = f' + 1 := ⟨f - 1, by omega⟩
    have hx : H[k]? = some (H[k]'(by omega)) := List.getElem?_eq_getElem (by omega)
    have et : H.take (k + 1) = H.take k ++ [H[k]'(by omega)] := by rw [List.take_add_one, hx]; rfl
    generalize H[k]'(by omega) = X at et hx
    have hlen : (H.take k).length = k := by rw [List.length_take]; omega
    rw [et, List.append_assoc] at hl
    have hget : (zL S 1107 0)[k]? = some X := by
      rw [hl, List.getElem?_append_right (by omega), hlen, Nat.sub_self]; rfl
    have hneg : ¬ nI k < 0 := nI_pos (by omega)
    rw [et, List.filter_append]
    by_cases q : 0 < zA S 204 X
    · have := ih (by omega) (X :: Y) S f (by omega) hl
      simp only [f_X11_dropEmptyHoldings_10, r_mrd, ite_f, pk_m1, hneg, ↓reduceIte, mlget, r_mrd, lAt_n (show k < 2 ^ 31 by omega) hget, r_mopt, ite_f, q]
      rw [this]
      rw [List.filter_cons_of_pos (by simp [q]), List.filter_nil, List.append_assoc]; rfl
    · have e9 : pRem 1107 0 (nI k).toNatClampNeg S = pL 1107 0 (H.take k ++ Y) (zP S 1107 0) S := by
        rw [nI_clamp (show k < 2 ^ 31 by omega)]
        unfold pRem
        rw [hl, List.eraseIdx_append_of_length_le (by omega), hlen, Nat.sub_self]; rfl
      have := ih (by omega) Y (pL 1107 0 (H.take k ++ Y) (zP S 1107 0) S) f (by omega) (by rw [sLL, if_pos rfl])
      rw [sPL, if_pos rfl, pL_pL, tAL] at this
      simp only [f_X11_dropEmptyHoldings_10, r_mrd, ite_f, pk_m1, hneg, ↓reduceIte, mlget, mlrem, r_mrd, lAt_n (show k < 2 ^ 31 by omega) hget, r_mopt, ite_f, q]
      show (f_X11_dropEmptyHoldings_10 f (nI k + (-1))).1 (pRem 1107 0 (nI k).toNatClampNeg S) = _
      rw [e9, this]
      rw [List.filter_cons_of_neg (by simp [q]), List.filter_nil, List.append_nil]
theorem e_drop (h : (hL S).length < 90000) : (f_X11_dropEmptyHoldings).1 S = some ((), drS S) := by
  have := e_drop10 (hL S) (by omega) (hL S).length (Nat.le_refl _) [] S FU (FU_gt (by omega)) (by rw [List.take_length, List.append_nil]; rfl)
  rw [List.take_length, List.append_nil] at this
  simp only [f_X11_dropEmptyHoldings, r_mrd, r_mbo]
  show (f_X11_dropEmptyHoldings_10 FU (nI (hL S).length - 1)).1 S = _
  rw [Int32.sub_eq_add_neg]; exact this
theorem drS_L : hL (drS S) = (hL S).filter fun h => decide (0 < zA S 204 h) := by
  unfold hL drS; rw [sLL, if_pos rfl]; rfl
theorem drS_A : zA (drS S) = zA S := rfl
theorem drS_P : zP (drS S) = zP S := by
  funext a b
  show u2 1107 0 (zP S 1107 0) (zP S) a b = _
  rw [u2_at]; split
  · rename_i e; rw [e.1, e.2]
  · rfl
theorem drS_SF : SF S (drS S) := ⟨fun _ _ => rfl, rfl, fun f hf => fLL hf, drS_P, fun _ _ => rfl, rfl, rfl⟩
theorem sm_drop {f : Nat → Int32} (xs : List Nat) (h : ∀ x, x ∈ xs → tI (zA S 204 x) 0 99) (hf : ∀ x, x ∈ xs → zA S 204 x = 0 → f x = 0) : sm (xs.filter fun h => decide (0 < zA S 204 h)) f = sm xs f := by
  rw [sm_fil]
  refine sm_cg _ fun x hx => ?_
  have t := tI_of (h x hx)
  by_cases q : 0 < zA S 204 x
  · rw [if_pos (by simp [q])]
  · rw [if_neg (by simp [q]), hf x hx]
    have e0 : (0 : Int32).toInt = 0 := rfl
    apply Int32.toInt_inj.mp
    have : ¬ (0 : Int32).toInt < (zA S 204 x).toInt := fun r => q (I_lt.mpr r)
    omega
theorem CO.drop (g : CO S) : CO (drS S) := by
  have g' := g
  obtain ⟨g1, g2, g3, g4, g5, c1, c2, c3⟩ := g
  have sub : (hL (drS S)).Sublist (hL S) := by rw [drS_L]; exact List.filter_sublist
  refine drS_SF.co sub (fun x hx => (g5 x (sub.subset hx)).2) ?_ g'
  unfold CH
  rw [drS_L]
  refine ⟨fun p l hp hl => (c1 p l hp hl).trans (sm_drop _ (fun x hx => (g5 x hx).2) fun x hx r => ?_).symm, fun j hj => (c2 j hj).trans (sm_drop _ (fun x hx => (g5 x hx).2) fun x hx r => ?_).symm, fun s i hs hi => (c3 s i hs hi).trans (sm_drop _ (fun x hx => (g5 x hx).2) fun x hx r => ?_).symm⟩
  · show (if _ then zA S 204 x else 0) = 0
    rw [r]; split <;> rfl
  · show (if _ then zA S 204 x else 0) = 0
    rw [r]; split <;> rfl
  · show (match zO S 205 x with | none => (0 : Int32) | some t => if _ then zA S 204 x else 0) = 0
    rw [r]; split
    · rfl
    · split <;> rfl
/-- releasing, as a step of the whole -/
theorem CO.rel (g : CO S) {x : Nat} (hx : x ∈ hL S) {d : Int32} (hd : tI (zA S 204 x - d) 0 99) : ∃ T, (f_X11_release x d).1 S = some ((), T) ∧ RLS S T x d ∧ CO T := by
  have g' := g
  obtain ⟨g1, g2, g3, g4, g5, g6⟩ := g
  obtain ⟨T, t1, t2⟩ := e_release g1 g2 (g5 x hx).1 d
  have eL : hL T = hL S := by unfold hL; rw [t2.2.1]
  refine ⟨T, t1, t2, t2.1.co (by rw [eL]; exact List.Sublist.refl _) (fun y hy => ?_) (t2.ch g6 g3 hx) g'⟩
  rw [t2.2.2.1]; split
  · exact hd
  · rw [eL] at hy; exact (g5 y hy).2
/-- a holding is cut down to what is left -/
def kpt (S : Ss) (x : Nat) (y : Int32) : Int32 := if y < zA S 204 x then y else zA S 204 x
def CT (S T : Ss) (x : Nat) (z : Int32) : Prop := SF S T ∧ zL T = zL S ∧ (∀ h, zA T 204 h = if h = x then z else zA S 204 h) ∧ (∀ t, zA T 1004 t = if zO S 205 x = some t then z else zA S 1004 t) ∧ ∀ t, zA T 1005 t = if zO S 205 x = some t ∧ z = 0 then 3 else zA S 1005 t
theorem CO.cut (g : CO S) {x : Nat} (hx : x ∈ hL S) {y : Int32} (hy : 0 ≤ y.toInt) : ∃ T, (f_X11_cut x y).1 S = some (kpt S x y, T) ∧ CT S T x (kpt S x y) ∧ CO T ∧ tI (kpt S x y) 0 99 ∧ (kpt S x y).toInt ≤ (zA S 204 x).toInt ∧ (kpt S x y).toInt ≤ y.toInt := by
  have hv := tI_of (g.2.2.2.2.1 x hx).2
  have hk : tI (kpt S x y) 0 99 ∧ (kpt S x y).toInt ≤ (zA S 204 x).toInt ∧ (kpt S x y).toInt ≤ y.toInt := by
    unfold kpt; split
    · rename_i q; have := I_lt.mp q; exact ⟨⟨by omega, by omega⟩, by omega, by omega⟩
    · rename_i q; have : ¬ y.toInt < _ := fun r => q (I_lt.mpr r); exact ⟨⟨by omega, by omega⟩, by omega, by omega⟩
  obtain ⟨U, u1, u2, u3⟩ := g.rel hx (d := zA S 204 x - kpt S x y) (by rw [I_ssub]; exact hk.1)
  obtain ⟨b1, b2, b3, b4, b5, b6, b7, b8⟩ := u2
  have eL : hL U = hL S := by unfold hL; rw [b2]
  have h204 : ∀ h, zA U 204 h = if h = x then kpt S x y else zA S 204 h := fun h => by rw [b3, I_ssub]
  have run : (f_X11_cut x y).1 S = (mrd fun S53 => mbo (zO S53 205 x) fun r54 => mcase r54 (mret (kpt S x y)) fun i56 => mbo (zO S53 205 x) fun r57 => mopt r57 fun i58 => wA 1004 i58 (kpt S x y) <| mrd fun S59 => if (kpt S x y) = 0 then mbo (zO S59 205 x) fun r61 => mopt r61 fun i62 => wA 1005 i62 3 <| mret (kpt S x y) else mret (kpt S x y)).1 U := by
    have ek : (if y < zA S 204 x then y else zA S 204 x) = kpt S x y := rfl
    unfold f_X11_cut
    rw [r_mrd, r_mbo, ek, r_mb, u1, bnd_s]
  rw [run]
  have oU : zO U = zO S := b1.2.1
  cases q : zO S 205 x with
  | none =>
    refine ⟨U, by simp only [r_mrd, r_mbo, oU, q, r_mcn, r_mret], ⟨b1, b2, h204, fun t => ?_, fun t => ?_⟩, u3, hk⟩
    · rw [b4, q, if_neg (by simp)]
    · rw [b5, q, if_neg (by simp)]
  | some t =>
    have mkCO : ∀ T, SF U T → zL T = zL U → zA T 204 = zA U 204 → zA T 402 = zA U 402 → zC T = zC U → CO T := fun T a1 a2 a3 a4 a5 => by
      have e : hL T = hL U := by unfold hL; rw [a2]
      refine a1.co (by rw [e]; exact List.Sublist.refl _) (fun z hz => by rw [a3]; rw [e] at hz; exact (u3.2.2.2.2.1 z hz).2) ?_ u3
      obtain ⟨c1, c2, c3⟩ := u3.2.2.2.2.2
      have hi : ∀ l, itS T l = itS U l := fun l => by unfold itS; rw [a1.2.1]
      have e1 : ∀ p l, hpc T p l = hpc U p l := fun p l => by funext z; unfold hpc; rw [a1.1 202 (by decide), a1.2.1, a3]
      have e2 : ∀ j, lnH T j = lnH U j := fun j => by funext z; unfold lnH; rw [a1.2.1, a3]
      have e3 : ∀ s i, apH T s i = apH U s i := fun s i => by funext z; unfold apH; simp only [hi]; rw [a1.1 1001 (by decide), a1.1 1003 (by decide), a1.2.1, a3]
      unfold CH
      simp only [e1, e2, e3]
      rw [e, a4, a5, a1.2.2.2.2.2.2]
      exact ⟨c1, c2, c3⟩
    by_cases q2 : kpt S x y = 0
    · refine ⟨pA 1005 t 3 (pA 1004 t (kpt S x y) U), ?_, ⟨?_, b2, fun h => ?_, fun t' => ?_, fun t' => ?_⟩, ?_, hk⟩
      · simp only [r_mrd, r_mbo, oU, q, r_mcs, r_mopt, r_wA, ite_f, if_pos q2, tOA, r_mret]
      · exact b1.tr ⟨fun f hf => by rw [fAA hf.2.2.2, fAA hf.2.2.1], rfl, fun _ _ => rfl, rfl, fun _ _ => rfl, rfl, rfl⟩
      · rw [fAA (by decide), fAA (by decide)]; exact h204 h
      · rw [fAA (by decide), sAA, q, b4]
        by_cases e : t' = t
        · rw [if_pos e, if_pos (by rw [e])]
        · rw [if_neg e, if_neg (fun r => e (Option.some.inj r).symm)]
      · rw [sAA, fAA (by decide), q, b5]
        by_cases e : t' = t
        · rw [if_pos e, if_pos ⟨by rw [e], q2⟩]
        · rw [if_neg e, if_neg (fun r => e (Option.some.inj r.1).symm)]
      · exact mkCO _ ⟨fun f hf => by rw [fAA hf.2.2.2, fAA hf.2.2.1], rfl, fun _ _ => rfl, rfl, fun _ _ => rfl, rfl, rfl⟩ rfl (by rw [fAA (by decide), fAA (by decide)]) (by rw [fAA (by decide), fAA (by decide)]) rfl
    · refine ⟨pA 1004 t (kpt S x y) U, ?_, ⟨?_, b2, fun h => ?_, fun t' => ?_, fun t' => ?_⟩, ?_, hk⟩
      · simp only [r_mrd, r_mbo, oU, q, r_mcs, r_mopt, r_wA, ite_f, if_neg q2, r_mret]
      · exact b1.tr ⟨fun f hf => by rw [fAA hf.2.2.1], rfl, fun _ _ => rfl, rfl, fun _ _ => rfl, rfl, rfl⟩
      · rw [fAA (by decide)]; exact h204 h
      · rw [sAA, q, b4]
        by_cases e : t' = t
        · rw [if_pos e, if_pos (by rw [e])]
        · rw [if_neg e, if_neg (fun r => e (Option.some.inj r).symm)]
      · rw [fAA (by decide), b5, if_neg (fun r => q2 r.2)]
      · exact mkCO _ ⟨fun f hf => by rw [fAA hf.2.2.1], rfl, fun _ _ => rfl, rfl, fun _ _ => rfl, rfl, rfl⟩ rfl (by rw [fAA (by decide)]) (by rw [fAA (by decide)]) rfl
/-- letting go -/
def lgc (S : Ss) (r1 r2 : Option Nat) (h : Nat) : Prop := ¬ zO S 200 h = none ∧ (zO S 200 h = r1 ∨ zO S 203 h = r2)
def LG (S T : Ss) (r1 r2 : Option Nat) (K : List Nat) : Prop := SF S T ∧ zL T = zL S ∧ zA T 1004 = zA S 1004 ∧ (∀ h, (h ∈ K ∧ lgc S r1 r2 h → zA T 204 h = 0) ∧ (¬ (h ∈ K ∧ lgc S r1 r2 h) → zA T 204 h = zA S 204 h)) ∧ ∀ t, ((∃ h, h ∈ K ∧ lgc S r1 r2 h ∧ zO S 205 h = some t) → zA T 1005 t = 3) ∧ ((¬ ∃ h, h ∈ K ∧ lgc S r1 r2 h ∧ zO S 205 h = some t) → zA T 1005 t = zA S 1005 t)
theorem CO.letGo (g : CO S) (r1 r2 : Option Nat) : ∃ T, (f_X11_letGo r1 r2).1 S = some ((), drS T) ∧ LG S T r1 r2 (hL S) ∧ CO T := by
  have hlen := g.2.2.2.1
  obtain ⟨T, a, ⟨i1, i2⟩, e⟩ := m_loop (α := Unit) (fun f _ j => f_X11_letGo_2 f r1 r2 j) (hL S).length (fun i T _ => LG S T r1 r2 ((hL S).take i) ∧ CO T) (fun _ T => some ((), drS T)) (fun f i T _ hi hI => by
    obtain ⟨⟨a1, a2, a3, a4, a5⟩, a6⟩ := hI
    have hx : (hL S)[i]? = some ((hL S)[i]'hi) := List.getElem?_eq_getElem hi
    have hxm := List.mem_of_getElem? hx
    have hxt : (hL S).take (i + 1) = (hL S).take i ++ [(hL S)[i]'hi] := by rw [List.take_add_one, hx]; rfl
    have hxn := nd_take g.2.2.1 hx
    generalize (hL S)[i]'hi = X at hx hxm hxt hxn
    have hlT : (zL T 1107 0).length = (hL S).length := by rw [a2]; rfl
    have hgT : lAt (zL T 1107 0) (nI i) = some X := lAt_n (by omega) (by rw [a2]; exact hx)
    have oT : zO T = zO S := a1.2.1
    have hm : ∀ h, h ∈ (hL S).take (i + 1) ↔ h ∈ (hL S).take i ∨ h = X := fun h => by rw [hxt, List.mem_append, List.mem_singleton]
    by_cases q : lgc S r1 r2 X
    · have h20 : (zA T 204 X) = zA S 204 X := (a4 X).2 fun r => hxn r.1
      have hXT : X ∈ hL T := by unfold hL; rw [a2]; exact hxm
      obtain ⟨U, u1, u2, u3⟩ := a6.rel hXT (d := zA T 204 X) (by rw [Int32.sub_self]; exact ⟨by decide, by decide⟩)
      obtain ⟨b1, b2, b3, b4, b5, -⟩ := u2
      have oU : zO U = zO S := b1.2.1.trans oT
      have s204 : ∀ h, (h ∈ (hL S).take (i + 1) ∧ lgc S r1 r2 h → zA U 204 h = 0) ∧ (¬ (h ∈ (hL S).take (i + 1) ∧ lgc S r1 r2 h) → zA U 204 h = zA S 204 h) := fun h => by
        rw [b3, hm]
        by_cases e : h = X
        · rw [if_pos e, Int32.sub_self]
          exact ⟨fun _ => rfl, fun r => absurd ⟨Or.inr e, e ▸ q⟩ r⟩
        · rw [if_neg e]
          exact ⟨fun r => (a4 h).1 ⟨r.1.resolve_right e, r.2⟩, fun r => (a4 h).2 fun r2 => r ⟨Or.inl r2.1, r2.2⟩⟩
      have run : (f_X11_letGo_2 (f + 1) r1 r2 (nI i)).1 T = (f_X11_letGo_52 (f_X11_letGo_2 f) r1 r2 (nI i) X).1 T := by
        obtain ⟨q0, q1⟩ := q
        cases q2 : zO S 200 X with
        | none => exact absurd q2 q0
        | some o =>
          rw [q2] at q1
          by_cases q3 : some o = r1
          · simp only [f_X11_letGo_2, r_mb, bnd_s, r_mrd, r_mbo, r_mret, r_mthr, r_wA, r_wO, r_madd, r_mput, r_mopt, r_mcn, r_mcs, ite_f, e_isWithin, e_isSlot, e_isItem, e_isGroup, e_isRobot, e_isLot, e_isNotice, e_isOrder, e_isTask, bI_t, bI_f, i10, i00, i01, i11, i20, i30, ↓reduceIte, hlT, nI_ge hi (show (hL S).length < 2 ^ 31 by omega), mlget, hgT, oT, q2, if_pos q3]
          · have q4 : zO S 203 X = r2 := q1.resolve_left q3
            simp only [f_X11_letGo_2, r_mb, bnd_s, r_mrd, r_mbo, r_mret, r_mthr, r_wA, r_wO, r_madd, r_mput, r_mopt, r_mcn, r_mcs, ite_f, e_isWithin, e_isSlot, e_isItem, e_isGroup, e_isRobot, e_isLot, e_isNotice, e_isOrder, e_isTask, bI_t, bI_f, i10, i00, i01, i11, i20, i30, ↓reduceIte, hlT, nI_ge hi (show (hL S).length < 2 ^ 31 by omega), mlget, hgT, oT, q2, if_neg q3, if_pos q4]
      cases q5 : zO S 205 X with
      | none =>
        refine ⟨U, (), ?_, ⟨a1.tr b1, b2.trans a2, b4.trans a3, s204, fun t => ?_⟩, u3⟩
        · rw [run]
          simp only [f_X11_letGo_52, r_mrd, r_mb, u1, bnd_s, r_mbo, oU, q5, r_mcn, nI_1]
        · rw [b5]
          refine ⟨fun ⟨h, p1, p2, p3⟩ => (a5 t).1 ⟨h, ?_, p2, p3⟩, fun r => (a5 t).2 fun ⟨h, p1, p2, p3⟩ => r ⟨h, (hm h).mpr (Or.inl p1), p2, p3⟩⟩
          rcases (hm h).mp p1 with e | e
          · exact e
          · rw [e, q5] at p3; cases p3
      | some t0 =>
        have mk : SF U (pA 1005 t0 3 U) := ⟨fun f hf => by rw [fAA hf.2.2.2], rfl, fun _ _ => rfl, rfl, fun _ _ => rfl, rfl, rfl⟩
        refine ⟨pA 1005 t0 3 U, (), ?_, ⟨(a1.tr b1).tr mk, b2.trans a2, ?_, fun h => ?_, fun t => ?_⟩, ?_⟩
        · rw [run]
          simp only [f_X11_letGo_52, r_mrd, r_mb, u1, bnd_s, r_mbo, oU, q5, r_mcs, r_mopt, r_wA, nI_1]
        · rw [fAA (by decide)]; exact b4.trans a3
        · rw [fAA (by decide)]; exact s204 h
        · rw [sAA, b5]
          by_cases e : t = t0
          · rw [if_pos e]
            exact ⟨fun _ => rfl, fun r => absurd ⟨X, (hm X).mpr (Or.inr rfl), q, by rw [e]; exact q5⟩ r⟩
          · rw [if_neg e]
            refine ⟨fun ⟨h, p1, p2, p3⟩ => (a5 t).1 ⟨h, ?_, p2, p3⟩, fun r => (a5 t).2 fun ⟨h, p1, p2, p3⟩ => r ⟨h, (hm h).mpr (Or.inl p1), p2, p3⟩⟩
            rcases (hm h).mp p1 with e2 | e2
            · exact e2
            · rw [e2, q5] at p3; exact absurd (Option.some.inj p3).symm e
        · have e : hL (pA 1005 t0 3 U) = hL U := rfl
          refine mk.co (by rw [e]; exact List.Sublist.refl _) (fun z hz => by rw [fAA (by decide)]; exact (u3.2.2.2.2.1 z hz).2) ?_ u3
          obtain ⟨c1, c2, c3⟩ := u3.2.2.2.2.2
          exact ⟨c1, c2, c3⟩
    · refine ⟨T, (), ?_, ⟨a1, a2, a3, fun h => ?_, fun t => ?_⟩, a6⟩
      · cases q2 : zO S 200 X with
        | none => simp only [f_X11_letGo_2, r_mb, bnd_s, r_mrd, r_mbo, r_mret, r_mthr, r_wA, r_wO, r_madd, r_mput, r_mopt, r_mcn, r_mcs, ite_f, e_isWithin, e_isSlot, e_isItem, e_isGroup, e_isRobot, e_isLot, e_isNotice, e_isOrder, e_isTask, bI_t, bI_f, i10, i00, i01, i11, i20, i30, ↓reduceIte, hlT, nI_ge hi (show (hL S).length < 2 ^ 31 by omega), mlget, hgT, oT, q2, nI_1]
        | some o =>
          have q3 : ¬ some o = r1 := fun r => q ⟨by rw [q2]; simp, Or.inl (by rw [q2]; exact r)⟩
          have q4 : ¬ zO S 203 X = r2 := fun r => q ⟨by rw [q2]; simp, Or.inr r⟩
          simp only [f_X11_letGo_2, r_mb, bnd_s, r_mrd, r_mbo, r_mret, r_mthr, r_wA, r_wO, r_madd, r_mput, r_mopt, r_mcn, r_mcs, ite_f, e_isWithin, e_isSlot, e_isItem, e_isGroup, e_isRobot, e_isLot, e_isNotice, e_isOrder, e_isTask, bI_t, bI_f, i10, i00, i01, i11, i20, i30, ↓reduceIte, hlT, nI_ge hi (show (hL S).length < 2 ^ 31 by omega), mlget, hgT, oT, q2, q3, q4, nI_1]
      · rw [hm]
        refine ⟨fun r => (a4 h).1 ⟨?_, r.2⟩, fun r => (a4 h).2 fun r2 => r ⟨Or.inl r2.1, r2.2⟩⟩
        rcases r.1 with e | e
        · exact e
        · exact absurd (e ▸ r.2) q
      · refine ⟨fun ⟨h, p1, p2, p3⟩ => (a5 t).1 ⟨h, ?_, p2, p3⟩, fun r => (a5 t).2 fun ⟨h, p1, p2, p3⟩ => r ⟨h, (hm h).mpr (Or.inl p1), p2, p3⟩⟩
        rcases (hm h).mp p1 with e | e
        · exact e
        · exact absurd (e ▸ p2) q) (fun f T _ hI => by
    obtain ⟨⟨a1, a2, a3, a4, a5⟩, a6⟩ := hI
    have hlT : (zL T 1107 0).length = (hL S).length := by rw [a2]; rfl
    simp only [f_X11_letGo_2, r_mb, bnd_s, r_mrd, r_mbo, r_mret, r_mthr, r_wA, r_wO, r_madd, r_mput, r_mopt, r_mcn, r_mcs, ite_f, e_isWithin, e_isSlot, e_isItem, e_isGroup, e_isRobot, e_isLot, e_isNotice, e_isOrder, e_isTask, bI_t, bI_f, i10, i00, i01, i11, i20, i30, ↓reduceIte, hlT, Int32.le_refl, e_drop a6.2.2.2.1]) FU (FU_gt (by omega)) (S := S) (a := ()) ⟨⟨SF.rf S, rfl, rfl, fun h => ⟨fun r => absurd r.1 (by simp), fun _ => rfl⟩, fun t => ⟨fun ⟨h, p1, _⟩ => absurd p1 (by simp), fun _ => rfl⟩⟩, g⟩
  rw [List.take_length] at i1
  exact ⟨T, e, i1, i2⟩
end
