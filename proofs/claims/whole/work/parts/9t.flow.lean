/-! what is free, what lacks -/
def lk (S : Ss) (j : Nat) : Int := (zA S 401 j).toInt - (zA S 402 j).toInt - (zA S 403 j).toInt
def fre (S : Ss) (s l : Nat) : Int := (zC S 0 (12 * s + l)).toInt - (zC S 3 (12 * s + l)).toInt
def TF (S : Ss) : Int := sz (List.range 12) fun l => sz (List.range 18) fun s => fre S s l
def o1 (x : Int) : Int := if 0 < x then 1 else 0
def PC (S : Ss) : Int := sz (List.range 12) fun l => sz (List.range 18) fun s => o1 (fre S s l)
def PL (S : Ss) : Int := sz (List.range (zN S 7)) fun o => sz (zL S 704 o) fun j => o1 (lk S j)
section
variable {B k : Nat} {S T U : Ss} {w v u : MS}
/-- what allocating leaves -/
def AQ (S T : Ss) : Prop := (∀ f, f / 100 ≠ 2 ∧ f ≠ 402 → zA T f = zA S f) ∧ (∀ f, f / 100 ≠ 2 → zO T f = zO S f) ∧ (∀ f, f ≠ 1107 → zL T f = zL S f) ∧ (∀ f, f ≠ 3 → zC T f = zC S f) ∧ zM T = zM S ∧ ∀ f, f ≠ 2 ∧ f ≠ 61 ∧ f ≠ 62 → zN T f = zN S f
theorem AQ.rf (S : Ss) : AQ S S := ⟨fun _ _ => rfl, fun _ _ => rfl, fun _ _ => rfl, fun _ _ => rfl, rfl, fun _ _ => rfl⟩
theorem AQ.tr (h : AQ S T) (g : AQ T U) : AQ S U := by
  obtain ⟨h1, h2, h3, h4, h5, h6⟩ := h
  obtain ⟨g1, g2, g3, g4, g5, g6⟩ := g
  exact ⟨fun f hf => (g1 f hf).trans (h1 f hf), fun f hf => (g2 f hf).trans (h2 f hf), fun f hf => (g3 f hf).trans (h3 f hf), fun f hf => (g4 f hf).trans (h4 f hf), g5.trans h5, fun f hf => (g6 f hf).trans (h6 f hf)⟩
/-- what the reference's allocating leaves, up to a row -/
def AV (H : Nat) (w v : MS) : Prop := (∀ f, f < 40 ∨ 44 < f → mA v f = mA w f) ∧ (∀ f q, q < H → mA v f q = mA w f q) ∧ ∀ f, f ≠ 39 → mI v f = mI w f
theorem AV.rf (H : Nat) (w : MS) : AV H w w := ⟨fun _ _ => rfl, fun _ _ _ => rfl, fun _ _ => rfl⟩
theorem AV.tr {H : Nat} (h : AV H w v) (g : AV H v u) : AV H w u := by
  obtain ⟨h1, h2, h3⟩ := h
  obtain ⟨g1, g2, g3⟩ := g
  exact ⟨fun f hf => (g1 f hf).trans (h1 f hf), fun f q hq => (g2 f q hq).trans (h2 f q hq), fun f hf => (g3 f hf).trans (h3 f hf)⟩
/-- what it costs -/
def AL (S T : Ss) : Prop := ∃ a : Nat, CS S T (2 * a) (6 * a) ∧ PC T + PL T + a ≤ PC S + PL S
theorem AL.rf (S : Ss) : AL S S := ⟨0, CS.rf, by omega⟩
theorem AL.tr (h : AL S T) (g : AL T U) : AL S U := by
  obtain ⟨a, h1, h2⟩ := h
  obtain ⟨b, g1, g2⟩ := g
  exact ⟨a + b, (h1.tr g1).mo (by omega) (by omega), by omega⟩
/-- what flows from the lots into a line -/
def LPj (S T : Ss) (j : Nat) (P : Nat → Prop) : Prop := (∀ q, q ≠ j → zA T 402 q = zA S 402 q) ∧ lk T j ≤ lk S j ∧ (∀ s l, s < 18 → l < 12 → fre T s l ≤ fre S s l) ∧ (∀ s l, s < 18 → l < 12 → ¬ P l → fre T s l = fre S s l) ∧ TF T = TF S - (lk S j - lk T j)
theorem LPj.rf (S : Ss) (j : Nat) (P : Nat → Prop) : LPj S S j P := ⟨fun _ _ => rfl, Int.le_refl _, fun _ _ _ _ => Int.le_refl _, fun _ _ _ _ _ => rfl, by omega⟩
theorem LPj.tr {j : Nat} {P : Nat → Prop} (h : LPj S T j P) (g : LPj T U j P) : LPj S U j P := by
  obtain ⟨h1, h2, h3, h4, h5⟩ := h
  obtain ⟨g1, g2, g3, g4, g5⟩ := g
  exact ⟨fun q hq => (g1 q hq).trans (h1 q hq), Int.le_trans g2 h2, fun s l hs hl => Int.le_trans (g3 s l hs hl) (h3 s l hs hl), fun s l hs hl hp => (g4 s l hs hl hp).trans (h4 s l hs hl hp), by omega⟩
theorem LPj.mo {j : Nat} {P Q : Nat → Prop} (h : LPj S T j P) (hq : ∀ l, P l → Q l) : LPj S T j Q := ⟨h.1, h.2.1, h.2.2.1, fun s l hs hl hp => h.2.2.2.1 s l hs hl fun r => hp (hq l r), h.2.2.2.2⟩
theorem Rel.frB0 (h : Rel B k S w) {s l : Nat} (hs : s < 18) (hl : l < 12) : 0 ≤ fre S s l ∧ fre S s l ≤ 8000000 := by
  obtain ⟨a, b, c⟩ := h.c3B (p := s) (l := l) (by omega) hl
  unfold fre; omega
theorem Rel.lkB (h : Rel B k S w) {o p j : Nat} (ho : o < zN S 7) (hp : (zL S 704 o)[p]? = some j) : 0 ≤ lk S j ∧ lk S j ≤ 99 ∧ (zA S 401 j - zA S 402 j - zA S 403 j).toInt = lk S j := by
  obtain ⟨-, -, -, -, c5, c6, c7, c8⟩ := (h.li.1 o ho).2.2 p j hp
  have t5 := tI_of c5
  have t6 := tI_of c6
  have t7 := tI_of c7
  have e1 : (zA S 401 j - zA S 402 j).toInt = (zA S 401 j).toInt - (zA S 402 j).toInt := sub_toInt (by omega) (by omega)
  have e2 : (zA S 401 j - zA S 402 j - zA S 403 j).toInt = (zA S 401 j - zA S 402 j).toInt - (zA S 403 j).toInt := sub_toInt (by omega) (by omega)
  unfold lk
  exact ⟨by omega, by omega, by omega⟩
theorem o1_le {x y : Int} (h : y ≤ x) : o1 y ≤ o1 x := by
  unfold o1
  by_cases a : 0 < y
  · rw [if_pos a, if_pos (by omega)]; exact Int.le_refl _
  · rw [if_neg a]; split <;> omega
theorem o1_b (x : Int) : 0 ≤ o1 x ∧ o1 x ≤ 1 := by unfold o1; split <;> omega
theorem Rel.hdS (h : Rel B k S w) {o p j s l : Nat} {n : Int32} (o7 : o < zN S 7) (hp : (zL S 704 o)[p]? = some j) (h705 : zA S 705 o = 0) (hs : s < 18) (hl : l < zN S 5) (n1 : 1 ≤ n.toInt) (nf : n.toInt ≤ fre S s l) (nl : n.toInt ≤ lk S j) (hmin : n.toInt = fre S s l ∨ n.toInt = lk S j) : ∃ T, (f_X11_hold (some o) (some j) (nI s) l n).1 S = some (some (zN S 2), T) ∧ Rel B k T (hdV w ((hL S).filter (hasO S)).length (nI (lqS S o j)) (nI s) (nI l) n) ∧ AQ S T ∧ AL S T ∧ LPj S T j (fun q => q = l) ∧ lk T j = lk S j - n.toInt ∧ fre T s l = fre S s l - n.toInt ∧ ((hL T).filter (hasO T)).length = ((hL S).filter (hasO S)).length + 1 := by
  have h12 := h.lo.1
  have h8 := h.or.1
  have jm : j ∈ zL S 704 o := List.mem_of_getElem? hp
  obtain ⟨k1, k2, k3⟩ := h.lkB o7 hp
  obtain ⟨f1, f2⟩ := h.frB0 hs (show l < 12 by omega)
  obtain ⟨c1, c2, c3⟩ := h.c3B (p := s) (l := l) (by omega) (by omega)
  have jN := h.lnM o7 jm
  obtain ⟨-, -, -, -, c5, c6, c7, c8⟩ := (h.li.1 o o7).2.2 p j hp
  have t5 := tI_of c5
  have t6 := tI_of c6
  have t7 := tI_of c7
  obtain ⟨b1, -⟩ := h.lo.2.2.2.1 l hl
  have hlen := h.hlen
  obtain ⟨T, e1, hD⟩ := e_hold (S := S) (r1 := some o) (r2 := some j) (n := n) (p := s) (l := l) (show s < 28 by omega) (show l < 12 by omega) b1 (by rw [hL_eq] at hlen; omega)
  have hD' := hD
  obtain ⟨d1, d2, d3, d4, d5, d6, d7, d8, d9, d10, d11, d12, d13, d14, d15, d16, d17, d18, d19, -⟩ := hD'
  have R := h.hd o7 jm h705 hs hl (n := n) ⟨n1, by omega⟩ (by unfold fre at nf; omega) (by unfold lk at nl; omega) hD
  have e402 : ∀ q, zA T 402 q = if q = j then zA S 402 q + n else zA S 402 q := fun q => by
    rw [d5]
    by_cases e : q = j
    · rw [if_pos e, if_pos (by rw [e])]
    · rw [if_neg e, if_neg (fun r => e (Option.some.inj r).symm)]
  have lkT : ∀ q, lk T q = if q = j then lk S q - n.toInt else lk S q := fun q => by
    unfold lk
    rw [d1 401 (by decide) (by decide), d1 403 (by decide) (by decide), e402]
    by_cases e : q = j
    · rw [if_pos e, if_pos e, e, add_toInt (by omega) (by omega)]; omega
    · rw [if_neg e, if_neg e]
  have frT : ∀ s' l', l' < 12 → fre T s' l' = if s' = s ∧ l' = l then fre S s' l' - n.toInt else fre S s' l' := fun s' l' hl' => by
    unfold fre
    rw [d15 0 (by decide), d16]
    by_cases e : s' = s ∧ l' = l
    · unfold fre at nf
      rw [if_pos e, if_pos (by omega), e.1, e.2, add_toInt (by omega) (by omega)]; omega
    · rw [if_neg e, if_neg (by omega)]
  have lT := lkT j
  rw [if_pos rfl] at lT
  have fT := frT s l (by omega)
  rw [if_pos ⟨rfl, rfl⟩] at fT
  have aq : AQ S T := ⟨fun f hf => d1 f hf.1 hf.2, d6, d12, d15, d17, d18⟩
  have mono : ∀ s' l', l' < 12 → fre T s' l' ≤ fre S s' l' := fun s' l' hl' => by
    rw [frT s' l' hl']; split <;> omega
  -- the cells
  have cells : ∀ (F : Int → Int), sz (List.range 12) (fun l => sz (List.range 18) fun s => F (fre T s l)) = sz (List.range 12) (fun l => sz (List.range 18) fun s => F (fre S s l)) + (F (fre S s l - n.toInt) - F (fre S s l)) := fun F => by
    have q1 := sz_one (xs := List.range 12) (x := l) (f := fun l => sz (List.range 18) fun s => F (fre S s l)) (g := fun l => sz (List.range 18) fun s => F (fre T s l)) List.nodup_range (List.mem_range.mpr (by omega)) fun l' hl' hne => sz_cg _ fun s' _ => by
      have := List.mem_range.mp hl'
      rw [frT s' l' this, if_neg (fun r => hne r.2)]
    have q2 := sz_one (xs := List.range 18) (x := s) (f := fun s => F (fre S s l)) (g := fun s => F (fre T s l)) List.nodup_range (List.mem_range.mpr hs) fun s' _ hne => by
      rw [frT s' l (by omega), if_neg (fun r => hne r.1)]
    rw [fT] at q2
    omega
  have lines : PL T = PL S + (o1 (lk S j - n.toInt) - o1 (lk S j)) := by
    unfold PL
    rw [d18 7 (by decide), d12 704 (by decide)]
    have q1 := sz_one (xs := List.range (zN S 7)) (x := o) (f := fun o => sz (zL S 704 o) fun j => o1 (lk S j)) (g := fun o => sz (zL S 704 o) fun j => o1 (lk T j)) List.nodup_range (List.mem_range.mpr o7) fun o' ho' hne => sz_cg _ fun j' hj' => by
      rw [lkT, if_neg]
      intro e
      rw [e] at hj'
      obtain ⟨p', hp', hpj'⟩ := List.mem_iff_getElem.mp hj'
      exact hne (h.li.2.1 o' o p' p j (List.mem_range.mp ho') o7 (List.getElem?_eq_some_iff.mpr ⟨hp', hpj'⟩) hp).1
    have q2 := sz_one (xs := zL S 704 o) (x := j) (f := fun j => o1 (lk S j)) (g := fun j => o1 (lk T j)) (h.lnd o7) jm fun j' _ hne => by
      rw [lkT, if_neg hne]
    rw [lT] at q2
    omega
  have eH : hL T = hL S ++ [zN S 2] := d13
  have eM : ((hL T).filter (hasO T)).length = ((hL S).filter (hasO S)).length + 1 := by
    rw [eH, List.filter_append, List.length_append]
    congr 1
    · congr 1
      refine List.filter_congr fun x hx => ?_
      unfold hasO
      rw [d7 200 x (by have := (h.ho.2.1 x hx).1; omega)]
    · have : hasO T (zN S 2) = true := by unfold hasO; rw [d8]; rfl
      rw [List.filter_cons_of_pos this]; rfl
  refine ⟨T, e1, R, aq, ⟨1, hD.cs, ?_⟩, ⟨fun q hq => by rw [e402, if_neg hq], by omega, fun s' l' _ hl' => mono s' l' hl', fun s' l' _ hl' hp' => by rw [frT s' l' hl', if_neg (fun r => hp' r.2)], ?_⟩, lT, fT, eM⟩
  · have q1 := cells o1
    have q2 : PC T = PC S + (o1 (fre S s l - n.toInt) - o1 (fre S s l)) := q1
    rw [lines, q2]
    have o0 : o1 0 = 0 := by unfold o1; rw [if_neg (by omega)]
    have op : ∀ x : Int, 1 ≤ x → o1 x = 1 := fun x hx => by unfold o1; rw [if_pos (by omega)]
    have m1 := o1_le (show fre S s l - n.toInt ≤ fre S s l by omega)
    have m2 := o1_le (show lk S j - n.toInt ≤ lk S j by omega)
    rcases hmin with e | e
    · have z : fre S s l - n.toInt = 0 := by omega
      rw [z, o0, op (fre S s l) (by omega)]; omega
    · have z : lk S j - n.toInt = 0 := by omega
      rw [z, o0, op (lk S j) (by omega)]; omega
  · have q := cells (fun x => x)
    have q2 : TF T = TF S + (fre S s l - n.toInt - fre S s l) := q
    rw [lT]; omega
end
