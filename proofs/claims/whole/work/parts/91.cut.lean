/-! what is there is less: cutting a row of holdings -/
def mn (a b : Int32) : Int32 := if b < a then b else a
theorem mn_i (a b : Int32) : (mn a b).toInt = if b.toInt < a.toInt then b.toInt else a.toInt := by
  unfold mn
  by_cases h : b < a
  · rw [if_pos h, if_pos (Int32.lt_iff_toInt_lt.mp h)]
  · rw [if_neg h, if_neg (fun r => h (Int32.lt_iff_toInt_lt.mpr r))]
theorem mn_less (a b : Int32) : (if b ≤ a then b else a) = mn a b := by
  unfold mn; exact (mnm2 b a).symm
def fcut (pc : Nat → Int32) (xs : List Nat) (r : Int32) (x : Nat) : Int32 := match xs with
  | [] => pc x
  | a :: t => if x = a then mn (pc a) r else fcut pc t (r - mn (pc a) r) x
def rcut (pc : Nat → Int32) (xs : List Nat) (r : Int32) : Int32 := match xs with
  | [] => r
  | a :: t => rcut pc t (r - mn (pc a) r)
section
variable {pc : Nat → Int32}
theorem fcut_n : ∀ (xs : List Nat) (r : Int32) (x : Nat), x ∉ xs → fcut pc xs r x = pc x
  | [], _, _, _ => rfl
  | a :: t, r, x, h => by
    show (if x = a then mn (pc a) r else fcut pc t (r - mn (pc a) r) x) = pc x
    rw [if_neg (show ¬ x = a from fun e => h (by rw [e]; exact List.mem_cons_self ..))]
    exact fcut_n t _ x fun e => h (List.mem_cons_of_mem _ e)
theorem fcut_app {a : Nat} : ∀ (xs : List Nat) (r : Int32) (x : Nat), a ∉ xs → fcut pc (xs ++ [a]) r x = if x = a then mn (pc a) (rcut pc xs r) else fcut pc xs r x
  | [], r, x, _ => rfl
  | b :: t, r, x, h => by
    show (if x = b then mn (pc b) r else fcut pc (t ++ [a]) (r - mn (pc b) r) x) = if x = a then mn (pc a) (rcut pc t (r - mn (pc b) r)) else if x = b then mn (pc b) r else fcut pc t (r - mn (pc b) r) x
    rw [fcut_app t _ x fun e => h (List.mem_cons_of_mem _ e)]
    by_cases e : x = b
    · rw [if_pos e, if_pos e, if_neg]
      intro e2
      exact h (by rw [← e2, e]; exact List.mem_cons_self ..)
    · rw [if_neg e, if_neg e]
theorem rcut_app {a : Nat} : ∀ (xs : List Nat) (r : Int32), rcut pc (xs ++ [a]) r = rcut pc xs r - mn (pc a) (rcut pc xs r)
  | [], _ => rfl
  | b :: t, r => rcut_app t (r - mn (pc b) r)
theorem cut_b : ∀ (xs : List Nat) (r : Int32), (∀ x, x ∈ xs → tI (pc x) 0 99) → 0 ≤ r.toInt → 0 ≤ (rcut pc xs r).toInt ∧ (rcut pc xs r).toInt ≤ r.toInt ∧ ∀ x, tI (pc x) 0 99 → tI (fcut pc xs r x) 0 99 ∧ (fcut pc xs r x).toInt ≤ (pc x).toInt
  | [], r, _, hr => ⟨hr, Int.le_refl _, fun x hx => ⟨hx, Int.le_refl _⟩⟩
  | a :: t, r, h, hr => by
    have ta := tI_of (h a (List.mem_cons_self ..))
    have em := mn_i (pc a) r
    have eb : 0 ≤ (mn (pc a) r).toInt ∧ (mn (pc a) r).toInt ≤ r.toInt ∧ (mn (pc a) r).toInt ≤ (pc a).toInt := by
      rw [em]; split <;> omega
    have rb := r.toInt_lt
    simp only [Int.reducePow, Nat.reducePow, Nat.reduceSub, Int.reduceSub] at rb
    have es : (r - mn (pc a) r).toInt = r.toInt - (mn (pc a) r).toInt := sub_toInt (by omega) (by omega)
    obtain ⟨i1, i2, i3⟩ := cut_b t (r - mn (pc a) r) (fun x hx => h x (List.mem_cons_of_mem _ hx)) (by omega)
    refine ⟨i1, Int.le_trans i2 (by omega), fun x hx => ?_⟩
    show tI (if x = a then mn (pc a) r else fcut pc t (r - mn (pc a) r) x) 0 99 ∧ (if x = a then mn (pc a) r else fcut pc t (r - mn (pc a) r) x).toInt ≤ (pc x).toInt
    by_cases e : x = a
    · rw [if_pos e, e]; exact ⟨⟨by omega, by omega⟩, by omega⟩
    · rw [if_neg e]; exact i3 x hx
/-- what is kept of all is at most what is there -/
theorem cut_s : ∀ (xs : List Nat) (r : Int32), (∀ x, x ∈ xs → tI (pc x) 0 99) → 0 ≤ r.toInt → xs.Nodup → sz xs (fun x => (fcut pc xs r x).toInt) + (rcut pc xs r).toInt = r.toInt
  | [], r, _, _, _ => by show (0 : Int) + r.toInt = r.toInt; omega
  | a :: t, r, h, hr, hn => by
    obtain ⟨n1, n2⟩ := List.nodup_cons.mp hn
    have ta := tI_of (h a (List.mem_cons_self ..))
    have em := mn_i (pc a) r
    have eb : 0 ≤ (mn (pc a) r).toInt ∧ (mn (pc a) r).toInt ≤ r.toInt := by
      rw [em]; split <;> omega
    have rb := r.toInt_lt
    simp only [Int.reducePow, Nat.reducePow, Nat.reduceSub, Int.reduceSub] at rb
    have es : (r - mn (pc a) r).toInt = r.toInt - (mn (pc a) r).toInt := sub_toInt (by omega) (by omega)
    have ih := cut_s t (r - mn (pc a) r) (fun x hx => h x (List.mem_cons_of_mem _ hx)) (by omega) n2
    show (if a = a then mn (pc a) r else fcut pc t (r - mn (pc a) r) a).toInt + sz t (fun x => (if x = a then mn (pc a) r else fcut pc t (r - mn (pc a) r) x).toInt) + (rcut pc t (r - mn (pc a) r)).toInt = r.toInt
    rw [if_pos rfl, sz_cg (y := fun x => (fcut pc t (r - mn (pc a) r) x).toInt) t fun x hx => by rw [if_neg (show ¬ x = a from fun e => n1 (e ▸ hx))]]
    omega
end
section
variable {S T U : Ss} {w v : MS}
/-- the values after cutting the holdings of a list -/
def CCv (S T : Ss) (xs : List Nat) (r : Int32) : Prop := zL T = zL S ∧ (∀ h, zA T 204 h = fcut (zA S 204) xs r h) ∧ (∀ x t, x ∈ xs → zO S 205 x = some t → zA T 1004 t = fcut (zA S 204) xs r x ∧ zA T 1005 t = if fcut (zA S 204) xs r x = 0 then 3 else zA S 1005 t) ∧ ∀ t, (¬ ∃ x, x ∈ xs ∧ zO S 205 x = some t) → zA T 1004 t = zA S 1004 t ∧ zA T 1005 t = zA S 1005 t
theorem CCv.rf (r : Int32) : CCv S S [] r := ⟨rfl, fun _ => rfl, fun x t h => absurd h (by simp), fun _ _ => ⟨rfl, rfl⟩⟩
theorem CO.uq (g : CO S) {x y t : Nat} (hx : x ∈ hL S) (hy : y ∈ hL S) (h1 : zO S 205 x = some t) (h2 : zO S 205 y = some t) : x = y := by
  obtain ⟨_, _, -, -, -, -, -, -, -, -, c1⟩ := (g.2.2.2.2.1 x hx).1
  obtain ⟨_, _, -, -, -, -, -, -, -, -, c2⟩ := (g.2.2.2.2.1 y hy).1
  exact Option.some.inj ((c1 t h1).2.1.symm.trans (c2 t h2).2.1)
theorem CO.cutS (g : CO S) (g' : CO T) (hF : SF S T) {xs : List Nat} {r : Int32} (hc : CCv S T xs r) {a : Nat} (ha : a ∈ hL S) (hn : a ∉ xs) (hs : ∀ x, x ∈ xs → x ∈ hL S) (hr : 0 ≤ r.toInt) : ∃ U, (f_X11_cut a (rcut (zA S 204) xs r)).1 T = some (mn (zA S 204 a) (rcut (zA S 204) xs r), U) ∧ SF S U ∧ CCv S U (xs ++ [a]) r ∧ CO U := by
  obtain ⟨c1, c2, c3, c4⟩ := hc
  have hpc : ∀ x, x ∈ xs → tI (zA S 204 x) 0 99 := fun x hx => (g.2.2.2.2.1 x (hs x hx)).2
  obtain ⟨b1, b2, b3⟩ := cut_b xs r hpc hr
  have ha' : a ∈ hL T := by unfold hL; rw [c1]; exact ha
  obtain ⟨U, u1, ⟨u2, u3, u4, u5, u6⟩, u7, -⟩ := g'.cut ha' b1
  have ea : zA T 204 a = zA S 204 a := by rw [c2, fcut_n xs r a hn]
  have ek : kpt T a (rcut (zA S 204) xs r) = mn (zA S 204 a) (rcut (zA S 204) xs r) := by unfold kpt mn; rw [ea]
  have oT : ∀ x, zO T 205 x = zO S 205 x := fun x => by rw [hF.2.1]
  rw [ek] at u1 u4 u5 u6
  have hfa : ∀ x, fcut (zA S 204) (xs ++ [a]) r x = if x = a then mn (zA S 204 a) (rcut (zA S 204) xs r) else fcut (zA S 204) xs r x := fun x => fcut_app xs r x hn
  refine ⟨U, u1, hF.tr u2, ⟨u3.trans c1, fun h => ?_, fun x t hx ht => ?_, fun t ht => ?_⟩, u7⟩
  · rw [u4, hfa, c2]
  · rw [u5, u6, oT, hfa]
    by_cases e : x = a
    · subst e
      rw [if_pos ht, if_pos rfl]
      refine ⟨rfl, ?_⟩
      have e5 : zA T 1005 t = zA S 1005 t := (c4 t fun ⟨y, y1, y2⟩ => hn (by rw [g.uq ha (hs y y1) ht y2]; exact y1)).2
      by_cases z : mn (zA S 204 x) (rcut (zA S 204) xs r) = 0
      · rw [if_pos ⟨ht, z⟩, if_pos z]
      · rw [if_neg (fun r => z r.2), if_neg z, e5]
    · have hx' : x ∈ xs := by
        rcases List.mem_append.mp hx with q | q
        · exact q
        · exact absurd (List.mem_singleton.mp q) e
      have nt : ¬ zO S 205 a = some t := fun q => e (g.uq (hs x hx') ha ht q)
      rw [if_neg nt, if_neg (show ¬ (zO S 205 a = some t ∧ mn (zA S 204 a) (rcut (zA S 204) xs r) = 0) from fun r => nt r.1), if_neg e]
      exact c3 x t hx' ht
  · have nt : ¬ zO S 205 a = some t := fun q => ht ⟨a, List.mem_append_right _ (List.mem_singleton.mpr rfl), q⟩
    rw [u5, u6, oT, if_neg nt, if_neg (fun r => nt r.1)]
    exact c4 t fun ⟨y, y1, y2⟩ => ht ⟨y, List.mem_append_left _ y1, y2⟩
/-- the holdings of a slot and a lot, by turns -/
def tnN (S : Ss) (x : Nat) : Nat := (zO S 200 x).getD 8
def sel (S : Ss) (s l : Nat) (f0 : Option Nat) (n : Nat) (x : Nat) : Bool := decide (¬ some x = f0 ∧ tnN S x = n ∧ zA S 202 x = nI s ∧ zO S 203 x = some l)
def cutL (S : Ss) (s l : Nat) (f0 : Option Nat) (n : Nat) : List Nat := match n with
  | 0 => f0.toList
  | m + 1 => cutL S s l f0 m ++ (hL S).filter (sel S s l f0 m)
theorem cutL_m {s l : Nat} {f0 : Option Nat} : ∀ n x, x ∈ cutL S s l f0 n → f0 = some x ∨ (x ∈ hL S ∧ ¬ some x = f0 ∧ tnN S x < n ∧ zA S 202 x = nI s ∧ zO S 203 x = some l)
  | 0, x, h => by
    cases f0 with
    | none => cases h
    | some y => rw [List.mem_singleton.mp h]; exact Or.inl rfl
  | n + 1, x, h => by
    rcases List.mem_append.mp h with q | q
    · rcases cutL_m n x q with e | ⟨e1, e2, e3, e4⟩
      · exact Or.inl e
      · exact Or.inr ⟨e1, e2, by omega, e4⟩
    · obtain ⟨q1, q2⟩ := List.mem_filter.mp q
      obtain ⟨q3, q4, q5⟩ := of_decide_eq_true q2
      exact Or.inr ⟨q1, q3, by omega, q5⟩
theorem cutL_nd {s l : Nat} {f0 : Option Nat} (hn : (hL S).Nodup) : ∀ n, (cutL S s l f0 n).Nodup
  | 0 => by
    cases f0 with
    | none => exact List.nodup_nil
    | some y => exact List.nodup_cons.mpr ⟨by simp, List.nodup_nil⟩
  | n + 1 => by
    show (cutL S s l f0 n ++ (hL S).filter (sel S s l f0 n)).Nodup
    rw [List.nodup_append]
    refine ⟨cutL_nd hn n, hn.sublist List.filter_sublist, fun x hx y hy e => ?_⟩
    subst e
    obtain ⟨q1, q2⟩ := List.mem_filter.mp hy
    obtain ⟨q3, q4, -⟩ := of_decide_eq_true q2
    rcases cutL_m n x hx with e | ⟨-, -, e3, -⟩
    · exact q3 e.symm
    · omega
theorem hwf_trn {x : Nat} (h : hwf S x) : trn S x = nI (tnN S x) ∧ (tnN S x = 8 ∨ tnN S x < zN S 7) := by
  obtain ⟨l, p, -, -, -, -, -, -, -, c8, -⟩ := h
  unfold trn tnN
  rcases c8 with ⟨q, -⟩ | ⟨o, j, q, -, q1, q2, -⟩
  · rw [q]; exact ⟨rfl, Or.inl rfl⟩
  · rw [q]; exact ⟨q2, Or.inr q1⟩
/-- one turn of the class's loop -/
theorem CO.sh55 (g : CO S) (h7 : zN S 7 ≤ 8) {s l n : Nat} {f0 : Option Nat} (hn : n < 9) (hf0 : ∀ x, f0 = some x → x ∈ hL S) {r : Int32} (hr : 0 ≤ r.toInt) (K : Int32 → Nat → Option Nat → Int32 → Int32 → MM (Unit)) {T : Ss} (g' : CO T) (hF : SF S T) (hc : CCv S T (cutL S s l f0 n) r) : ∃ U, (f_X11_shorten_55 K FU (nI s) l f0 (rcut (zA S 204) (cutL S s l f0 n) r) (nI n) 0).1 T = (K (nI s) l f0 (rcut (zA S 204) (cutL S s l f0 (n + 1)) r) (nI (n + 1))).1 U ∧ CO U ∧ SF S U ∧ CCv S U (cutL S s l f0 (n + 1)) r := by
  have hsub : ∀ x, x ∈ cutL S s l f0 n → x ∈ hL S := fun x hx => by
    rcases cutL_m n x hx with e | e
    · exact hf0 x e
    · exact e.1
  obtain ⟨P, hP⟩ : ∃ P : Nat → List Nat, P = fun i => cutL S s l f0 n ++ ((hL S).take i).filter (sel S s l f0 n) := ⟨_, rfl⟩
  have P0 : P 0 = cutL S s l f0 n := by rw [hP]; simp
  have PN : P (hL S).length = cutL S s l f0 (n + 1) := by rw [hP]; show _ ++ _ = _ ++ _; rw [List.take_length]
  obtain ⟨U, a, ⟨i1, i2, i3, i4⟩, e⟩ := m_loop (α := Int32) (fun f a j => f_X11_shorten_55 K f (nI s) l f0 a (nI n) j) (hL S).length (fun i U a => a = rcut (zA S 204) (P i) r ∧ CO U ∧ SF S U ∧ CCv S U (P i) r) (fun a U => (K (nI s) l f0 a (nI (n + 1))).1 U) (fun f i U a hi hI => by
    obtain ⟨i1, i2, i3, i4⟩ := hI
    have hx : (hL S)[i]? = some ((hL S)[i]'hi) := List.getElem?_eq_getElem hi
    generalize (hL S)[i]'hi = X at hx
    have hXm := List.mem_of_getElem? hx
    have hlen := g.2.2.2.1
    have hlU : (zL U 1107 0).length = (hL S).length := by rw [i4.1]; rfl
    have hgU : lAt (zL U 1107 0) (nI i) = some X := lAt_n (by omega) (by rw [i4.1]; exact hx)
    have hPn : P (i + 1) = P i ++ if sel S s l f0 n X = true then [X] else [] := by
      rw [hP]
      show _ ++ _ = _ ++ _ ++ _
      rw [fil_take _ _ _ _ hx, List.append_assoc]
    obtain ⟨t1, t2⟩ := hwf_trn (g.2.2.2.2.1 X hXm).1
    have eT : trn U X = nI (tnN S X) := by rw [← t1]; unfold trn; rw [i3.2.1, i3.1 700 (by decide)]
    have e2 : zA U 202 X = zA S 202 X := by rw [i3.1 202 (by decide)]
    have e3 : zO U 203 X = zO S 203 X := by rw [i3.2.1]
    by_cases q : sel S s l f0 n X = true
    · rw [if_pos q] at hPn
      have q' := q
      obtain ⟨q1, q2, q3, q4⟩ := of_decide_eq_true q
      have hXP : X ∉ P i := fun r => by
        rw [hP] at r
        rcases List.mem_append.mp r with r | r
        · rcases cutL_m n X r with e | ⟨-, -, e3, -⟩
          · exact q1 e.symm
          · omega
        · exact nd_take g.2.2.1 hx (List.mem_filter.mp r).1
      have hPs : ∀ x, x ∈ P i → x ∈ hL S := fun x hx => by
        rw [hP] at hx
        rcases List.mem_append.mp hx with r | r
        · exact hsub x r
        · exact (List.take_sublist _ _).subset (List.mem_filter.mp r).1
      obtain ⟨V, v1, v2, v3, v4⟩ := g.cutS i2 i3 i4 hXm hXP hPs hr
      refine ⟨V, rcut (zA S 204) (P (i + 1)) r, ?_, rfl, v4, v2, by rw [hPn]; exact v3⟩
      rw [hPn, rcut_app, i1]
      simp only [f_X11_shorten_55, r_mb, bnd_s, r_mrd, r_mbo, r_mret, r_mthr, r_wA, r_wO, r_madd, r_mput, r_mopt, r_mcn, r_mcs, ite_f, e_isWithin, e_isSlot, e_isItem, e_isGroup, e_isRobot, e_isLot, e_isNotice, e_isOrder, e_isTask, bI_t, bI_f, i10, i00, i01, i11, i20, i30, ↓reduceIte, hlU, nI_ge hi (show (hL S).length < 2 ^ 31 by omega), mlget, hgU, if_neg q1, e_turn, eT, q2, e_isOf, e2, e3, q3, q4, and_self, decide_true, v1, nI_1]
    · have hPn' : P (i + 1) = P i := by rw [hPn, if_neg q, List.append_nil]
      refine ⟨U, a, ?_, by rw [hPn']; exact i1, i2, i3, by rw [hPn']; exact i4⟩
      have q' : ¬ (¬ some X = f0 ∧ tnN S X = n ∧ zA S 202 X = nI s ∧ zO S 203 X = some l) := fun r => q (decide_eq_true r)
      by_cases q1 : some X = f0
      · simp only [f_X11_shorten_55, r_mb, bnd_s, r_mrd, r_mbo, r_mret, r_mthr, r_wA, r_wO, r_madd, r_mput, r_mopt, r_mcn, r_mcs, ite_f, e_isWithin, e_isSlot, e_isItem, e_isGroup, e_isRobot, e_isLot, e_isNotice, e_isOrder, e_isTask, bI_t, bI_f, i10, i00, i01, i11, i20, i30, ↓reduceIte, hlU, nI_ge hi (show (hL S).length < 2 ^ 31 by omega), mlget, hgU, if_pos q1, nI_1]
      · by_cases q2 : tnN S X = n
        · have q3 : ¬ (zA S 202 X = nI s ∧ zO S 203 X = some l) := fun r => q' ⟨q1, q2, r⟩
          simp only [f_X11_shorten_55, r_mb, bnd_s, r_mrd, r_mbo, r_mret, r_mthr, r_wA, r_wO, r_madd, r_mput, r_mopt, r_mcn, r_mcs, ite_f, e_isWithin, e_isSlot, e_isItem, e_isGroup, e_isRobot, e_isLot, e_isNotice, e_isOrder, e_isTask, bI_t, bI_f, i10, i00, i01, i11, i20, i30, ↓reduceIte, hlU, nI_ge hi (show (hL S).length < 2 ^ 31 by omega), mlget, hgU, if_neg q1, e_turn, eT, q2, e_isOf, e2, e3, q3, decide_false, nI_1]
        · have q3 : ¬ nI (tnN S X) = nI n := fun r => q2 ((nI_eq (by omega) (by omega)).mp r)
          simp only [f_X11_shorten_55, r_mb, bnd_s, r_mrd, r_mbo, r_mret, r_mthr, r_wA, r_wO, r_madd, r_mput, r_mopt, r_mcn, r_mcs, ite_f, e_isWithin, e_isSlot, e_isItem, e_isGroup, e_isRobot, e_isLot, e_isNotice, e_isOrder, e_isTask, bI_t, bI_f, i10, i00, i01, i11, i20, i30, ↓reduceIte, hlU, nI_ge hi (show (hL S).length < 2 ^ 31 by omega), mlget, hgU, if_neg q1, e_turn, eT, if_neg q3, nI_1]) (fun f U a hI => by
    have hlen := g.2.2.2.1
    have hlU : (zL U 1107 0).length = (hL S).length := by rw [hI.2.2.2.1]; rfl
    simp only [f_X11_shorten_55, r_mb, bnd_s, r_mrd, r_mbo, r_mret, r_mthr, r_wA, r_wO, r_madd, r_mput, r_mopt, r_mcn, r_mcs, ite_f, e_isWithin, e_isSlot, e_isItem, e_isGroup, e_isRobot, e_isLot, e_isNotice, e_isOrder, e_isTask, bI_t, bI_f, i10, i00, i01, i11, i20, i30, ↓reduceIte, hlU, Int32.le_refl, nI_1]) FU (FU_gt (by have := g.2.2.2.1; omega)) (S := T) (a := rcut (zA S 204) (cutL S s l f0 n) r) ⟨by rw [P0], g', hF, by rw [P0]; exact hc⟩
  rw [PN] at i1 i4
  exact ⟨U, by rw [e, i1], i2, i3, i4⟩
theorem CO.sh45 (g : CO S) (h7 : zN S 7 ≤ 8) {s l : Nat} {f0 : Option Nat} (hf0 : ∀ x, f0 = some x → x ∈ hL S) {r : Int32} (hr : 0 ≤ r.toInt) : ∀ d n, n + d = 9 → ∀ f, d < f → ∀ T, CO T → SF S T → CCv S T (cutL S s l f0 n) r → ∃ U, (f_X11_shorten_45 f (nI s) l f0 (rcut (zA S 204) (cutL S s l f0 n) r) (nI n)).1 T = some ((), drS U) ∧ CO U ∧ SF S U ∧ CCv S U (cutL S s l f0 9) r
  | 0, n, hnd, f, hf, T, g', hF, hc => by
    obtain ⟨f, rfl⟩ : ∃ f', f = f' + 1 := ⟨f - 1, by omega⟩
    have e : n = 9 := by omega
    subst e
    refine ⟨T, ?_, g', hF, hc⟩
    simp only [f_X11_shorten_45, r_mb, bnd_s, r_mrd, r_mbo, r_mret, r_mthr, r_wA, r_wO, r_madd, r_mput, r_mopt, r_mcn, r_mcs, ite_f, e_isWithin, e_isSlot, e_isItem, e_isGroup, e_isRobot, e_isLot, e_isNotice, e_isOrder, e_isTask, bI_t, bI_f, i10, i00, i01, i11, i20, i30, ↓reduceIte, show (8 : Int32) < nI 9 by decide, e_drop g'.2.2.2.1]
  | d + 1, n, hnd, f, hf, T, g', hF, hc => by
    obtain ⟨f, rfl⟩ : ∃ f', f = f' + 1 := ⟨f - 1, by omega⟩
    have h9 : ¬ (8 : Int32) < nI n := by
      intro r
      have := Int32.lt_iff_toInt_lt.mp r
      rw [nI_toInt (by omega)] at this
      have e8 : (8 : Int32).toInt = 8 := by decide
      omega
    obtain ⟨U, u1, u2, u3, u4⟩ := g.sh55 h7 (n := n) (by omega) hf0 hr (f_X11_shorten_45 f) g' hF hc
    obtain ⟨V, v1, v2⟩ := g.sh45 h7 hf0 hr d (n + 1) (by omega) f (by omega) U u2 u3 u4
    refine ⟨V, ?_, v2⟩
    rw [← v1, ← u1]
    simp only [f_X11_shorten_45, ite_f, if_neg h9]
end
