/-! a PICK is made and given; many of them -/
section
variable {B k : Nat} {S T S0 : Ss} {w v : MS}
/-- what making a PICK leaves -/
def PKS (S T : Ss) (x : Nat) : Prop := (∀ f, f / 100 ≠ 10 → zA T f = zA S f) ∧ (∀ f, f / 100 ≠ 10 ∧ f ≠ 205 → zO T f = zO S f) ∧ (∀ y, ¬ y = x → zO T 205 y = zO S 205 y) ∧ ¬ zO T 205 x = none ∧ (∀ f, f ≠ 1108 ∧ f ≠ 800 → zL T f = zL S f) ∧ zN T 10 = zN S 10 + 1 ∧ ∀ f, f ≠ 10 ∧ f ≠ 61 ∧ f ≠ 62 → zN T f = zN S f
def PKR (B k r : Nat) (S : Ss) (w : MS) (x : Nat) (T : Ss) (v : MS) : Prop := (∀ K : MM (Nat × Int32), (mb (f_X2_turn x) fun x73 => mb (f_X11_makeTask 2 x (20 + x73)) fun r75 => mopt r75 fun i83 => mb (f_X8_take r i83) fun _ => K).1 S = K.1 T) ∧ (∀ (n o j l s : Nat) (K : GM Unit), ((hL S).filter (hasO S))[n]? = some x → zO S 200 x = some o → zO S 201 x = some j → zO S 203 x = some l → zA S 202 x = nI s → (gb (g_X12_makes 2 (nI l) (nI s) (nI (20 + o)) (nI (lqS S o j)) (zA S 204 x)) fun x70 => gix (nI n) (mL 44) <| gst (mSA 44 n x70) <| gb (g_X12_gives (nI r) x70) fun _ => K) w = K v) ∧ Rel B k T v ∧ PKS S T x ∧ CS S T 3 7 ∧ cT T (zN T 10) + 12 * cS T (zN T 7) = cT S (zN S 10) + 12 * cS S (zN S 7) ∧ mI v 0 = mI w 0
theorem Rel.pk (h : Rel B k S w) {r x o : Nat} (hr : r < 3) (hN : zN S 10 < 60) (hx : x ∈ hL S) (ho : zO S 200 x = some o) (h205 : zO S 205 x = none) : ∃ T v, PKR B k r S w x T v := by
  have h60 := h.ta.1
  have hcnt := h.hcount
  obtain ⟨j, hj, o7, jm, h705, s, hs, hsl⟩ := h.hpos hx ho
  obtain ⟨l, hl, hlo⟩ := (h.ho.2.1 x hx).2.2.1
  have hxM : x ∈ (hL S).filter (hasO S) := List.mem_filter.mpr ⟨hx, by unfold hasO; rw [ho]; rfl⟩
  obtain ⟨n, hn1, hn2⟩ := List.mem_iff_getElem.mp hxM
  have hn : ((hL S).filter (hasO S))[n]? = some x := List.getElem?_eq_some_iff.mpr ⟨hn1, hn2⟩
  obtain ⟨U, e1, e2, e3⟩ := e_makeP (S := S) (nI (20 + o)) x (by rw [h.nt]; omega)
  have R1 := h.mkP hN hx ho hj h205 hlo hsl hs hn e2 e3
  obtain ⟨mA1, mA2, c1, c2, c3, c4, c5, c6, mO1, mO2, m205, c7, mL1, mL8, mP1, mM1, mN1, mN10, -⟩ := id e2
  have htU : zN S 10 < zN U 10 := by omega
  have h0 : zA U 1005 (zN S 10) = 0 := c5
  have hlen := R1.rlen hr
  have h60U := R1.ta.1
  obtain ⟨a, b, c, ea, ha, hb, hc, hc2⟩ := e_take (S := U) (r := r) (t := zN S 10) (by omega)
  have R2 := Rel.cost (R1.take hr htU h0 c) a b
  obtain ⟨T, hT⟩ : ∃ T, T = pN 61 a (pN 62 b (tkT U r (zN S 10) c)) := ⟨_, rfl⟩
  have TA : ∀ f, f ≠ 1005 → zA T f = zA U f := fun f hf => by rw [hT, tAN, tAN]; unfold tkT; rw [tAL, fAA hf]
  have T5 : ∀ q, zA T 1005 q = if q = zN S 10 then 1 else zA U 1005 q := fun q => by rw [hT, tAN, tAN]; unfold tkT; rw [tAL, sAA]
  have TO : zO T = zO U := by rw [hT]; rfl
  have TL : ∀ f, f ≠ 800 → zL T f = zL U f := fun f hf => by rw [hT, tLN, tLN]; unfold tkT; rw [fLL hf, tLA]
  have TN : ∀ f, f ≠ 61 ∧ f ≠ 62 → zN T f = zN U f := fun f hf => by rw [hT, fNN hf.1, fNN hf.2]; rfl
  have TP : ∀ f i, zP T f i = if f = 800 ∧ i = r then c else zP U f i := fun f i => by
    rw [hT, tPN, tPN]; exact u2_at ..
  rw [← hT] at ea R2
  refine ⟨T, tkV U (pkV S w n x o j l s) r (zN S 10), fun K => ?_, fun n' o' j' l' s' K q1 q2 q3 q4 q5 => ?_, R2, ⟨fun f hf => ?_, fun f hf => by rw [TO]; exact mO1 f hf.1 hf.2, fun y hy => by rw [TO, m205, if_neg hy], by rw [TO, m205, if_pos rfl]; simp, fun f hf => by rw [TL f hf.2]; exact mL1 f hf.1, by rw [TN 10 (by decide), mN10], fun f hf => by rw [TN f hf.2]; exact mN1 f hf⟩, ?_, ?_, ?_⟩
  · have et : trn S x = nI o := by unfold trn; rw [ho]; exact (h.or.2.2.2.2.1 o o7).1
    have e20 : (20 : Int32) + nI o = nI (20 + o) := by rw [show (20 : Int32) = nI 20 from rfl, nI_add]
    simp only [r_mb, e_turn, bnd_s, et, e20, e1, r_mopt, ea]
  · have f1 : o' = o := Option.some.inj (q2.symm.trans ho)
    have f2 : j' = j := Option.some.inj (q3.symm.trans hj)
    have f3 : l' = l := Option.some.inj (q4.symm.trans hlo)
    have f5 : n' = n := nd_inj (h.ho.1.sublist List.filter_sublist) q1 hn
    rw [f1, f2, f3, f5]
    have km := k_makes (w := w) hN h.ta.2.2.1 2 (nI l) (nI s) (nI (20 + o)) (nI (lqS S o j)) (zA S 204 x)
    have kg := R1.kGives hr htU h0
    rw [← q5.symm.trans hsl] at km
    have e5 : pkV S w n x o j l s = mSA 44 n (nI (zN S 10)) (mkV w (zN S 10) 2 (nI l) (nI s') (nI (20 + o)) (nI (lqS S o j)) (zA S 204 x)) := by
      unfold pkV; rw [← q5.symm.trans hsl]
    rw [e5] at kg
    rw [r_gb, km, gbn_s, r_gnI (show n < mL 44 from show n < 2400 by omega) (show mL 44 < 2 ^ 31 by decide), r_gst, r_gb, kg, gbn_s, e5]
  · by_cases e : f = 1005
    · subst e; exact absurd rfl hf
    · rw [TA f e]; exact mA1 f hf
  · have cs1 := e2.cs
    have cs2 : CS U T 1 0 := by
      have e := cap_800 (S := U) (T := T) (c := c) hr (fun f i q => by rw [TP, if_neg q]) (by rw [TP, if_pos ⟨rfl, rfl⟩])
      refine ⟨by rw [hT, sNN]; omega, ?_, TN 60 (by decide), fun q => ?_⟩
      · have e62 : zN T 62 = b := by rw [hT, fNN (by decide), sNN]
        omega
      · obtain ⟨z1, z2, z3⟩ := q
        refine ⟨fun f h1 h2 => by rw [TP, if_neg (by omega)]; exact z1 f h1 h2, fun q hq => ?_, fun q hq => ?_⟩
        · rw [TP]; split
          · exact hc2 (z2 r hr)
          · exact z2 q hq
        · rw [TP, if_neg (by omega), TN 7 (by decide)]; exact z3 q hq
    exact cs1.tr cs2
  · have e7 : zN T 7 = zN S 7 := by rw [TN 7 (by decide)]; exact mN1 7 (by decide)
    have s5 : cS T (zN S 7) = cS S (zN S 7) := cS_eq (fun q => by rw [TA 705 (by decide), mA1 705 (by decide)]) _
    have t5 := cT_lt (S := S) (T := T) (zN S 10) fun q hq => by
      rw [T5, if_neg (show ¬ q = zN S 10 by omega), TA 1006 (by decide), mA2 1005 q (by omega), mA2 1006 q (by omega)]
    rw [TN 10 (by decide), mN10, e7, s5, cT_s, t5]
    have : ctb T (zN S 10) = 0 := by
      unfold ctb
      rw [T5, if_pos rfl, TA 1006 (by decide), c6]; rfl
    omega
  · have e : mI (tkV U (pkV S w n x o j l s) r (zN S 10)) = mI (pkV S w n x o j l s) := rfl
    rw [e]; unfold pkV
    rw [tIB, mkV_i, if_neg (by decide)]
/-- one after another -/
def JC (B k r : Nat) (W : List Nat) (S : Ss) (w : MS) (T : Ss) (v : MS) : Prop := match W with
  | [] => T = S ∧ v = w
  | x :: W' => ∃ S1 w1, PKR B k r S w x S1 w1 ∧ JC B k r W' S1 w1 T v
end
theorem jc_mk (B k r : Nat) (hr : r < 3) : ∀ (W : List Nat) (S : Ss) (w : MS), Rel B k S w → W.Nodup → (∀ x, x ∈ W → x ∈ hL S ∧ (∃ o, zO S 200 x = some o) ∧ zO S 205 x = none) → zN S 10 + W.length ≤ 60 → ∃ T v, JC B k r W S w T v ∧ Rel B k T v ∧ CS S T (3 * W.length) (7 * W.length) ∧ cT T (zN T 10) + 12 * cS T (zN T 7) = cT S (zN S 10) + 12 * cS S (zN S 7) ∧ mI v 0 = mI w 0
  | [], S, w, h, _, _, _ => ⟨S, w, ⟨rfl, rfl⟩, h, CS.rf, rfl, rfl⟩
  | x :: W, S, w, h, hn, hW, hN => by
    obtain ⟨n1, n2⟩ := List.nodup_cons.mp hn
    obtain ⟨hx, ⟨o, ho⟩, h205⟩ := hW x (List.mem_cons_self ..)
    have hl : (x :: W).length = W.length + 1 := rfl
    obtain ⟨S1, w1, P⟩ := h.pk hr (by omega) hx ho h205
    have P' := P
    obtain ⟨p1, p2, p3, ⟨k1, k2, k3, k4, k5, k6, k7⟩, p5, p6, p7⟩ := P'
    obtain ⟨T, v, j1, j2, j3, j4, j5⟩ := jc_mk B k r hr W S1 w1 p3 n2 (fun y hy => by
      obtain ⟨y1, ⟨o', y2⟩, y3⟩ := hW y (List.mem_cons_of_mem _ hy)
      refine ⟨?_, ⟨o', by rw [k2 200 (by decide)]; exact y2⟩, by rw [k3 y (fun e => n1 (e ▸ hy))]; exact y3⟩
      unfold hL; rw [k5 1107 (by decide)]; exact y1) (by omega)
    exact ⟨T, v, ⟨S1, w1, P, j1⟩, j2, (p5.tr j3).mo (by omega) (by omega), j4.trans p6, j5.trans p7⟩
