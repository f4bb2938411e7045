section
variable {m : Nat} {S T : Ss} {w v : MS}
def lgb (S : Ss) (r1 r2 : Option Nat) (x : Nat) : Bool := decide (¬ zO S 200 x = none ∧ (zO S 200 x = r1 ∨ zO S 203 x = r2))
theorem lgb_t {r1 r2 : Option Nat} {x : Nat} : lgb S r1 r2 x = true ↔ lgc S r1 r2 x := decide_eq_true_iff
def lgp (S : Ss) (r1 r2 : Option Nat) (x : Nat) : Int32 := if lgb S r1 r2 x = true then 0 else zA S 204 x
def gone (S : Ss) (r1 r2 : Option Nat) (t : Nat) : Prop := ∃ x, x ∈ hL S ∧ lgc S r1 r2 x ∧ zO S 205 x = some t
theorem Rel.hbk {B k : Nat} (h : Rel B k S w) {p : Nat → Int32} (t1 : hL T = (hL S).filter fun x => decide (¬ p x = 0)) (t2 : ∀ x, x ∈ hL S → ¬ p x = 0 → zA T 204 x = p x) (hA : zA T 202 = zA S 202) (hO : zO T 203 = zO S 203) (c1 : ∀ x, x ∈ hL S → tI (p x) 0 99 ∧ (p x).toInt ≤ (zA S 204 x).toInt) (a l : Nat) : sz (hL T) (fun x => (hpc T a l x).toInt) ≤ sz (hL S) (fun x => (hpc S a l x).toInt) := by
  rw [t1, sz_fil]
  refine sz_le _ fun x hx => ?_
  have e0 : (0 : Int32).toInt = 0 := rfl
  have t := c1 x hx
  have t3 := tI_of t.1
  by_cases q : p x = 0
  · rw [if_neg (by simp [q])]
    unfold hpc; split
    · omega
    · rw [e0]; exact Int.le_refl _
  · rw [if_pos (by simp [q])]
    unfold hpc
    rw [hA, hO, t2 x hx q]
    split
    · exact t.2
    · exact Int.le_refl _
theorem Rel.liOf {B k : Nat} (h : Rel B k S w) (hA : ∀ f, f = 401 ∨ f = 403 → zA T f = zA S f) (hO : zO T 400 = zO S 400) (hL : zL T 704 = zL S 704) (hN : zN T 7 = zN S 7 ∧ zN T 4 = zN S 4) (hB : ∀ k, k = 31 ∨ k = 36 ∨ k = 37 ∨ k = 38 → mA v k = mA w k) (h2 : ∀ j, j < zN S 4 → 0 ≤ (zA T 402 j).toInt ∧ (zA T 402 j).toInt ≤ (zA S 402 j).toInt) : g_li T v := by
  obtain ⟨l1, l2, l3⟩ := h.li
  unfold g_li
  rw [hA 401 (by decide), hA 403 (by decide), hO, hL, hN.1, hN.2, hB 31 (by decide), hB 36 (by decide), hB 37 (by decide), hB 38 (by decide)]
  refine ⟨fun o ho => ⟨(l1 o ho).1, (l1 o ho).2.1, fun p j hj => ?_⟩, l2, l3⟩
  obtain ⟨b1, b2, b3, b4, b5, b6, b7, b8⟩ := (l1 o ho).2.2 p j hj
  obtain ⟨c1, c2⟩ := h2 j b1
  have t := tI_of b6
  exact ⟨b1, b2, b3, b4, b5, ⟨c1, by omega⟩, b7, by omega⟩
theorem Rel.lets {B k : Nat} (h : Rel B k S w) {r1 r2 : Option Nat} (hg : LG S T r1 r2 (hL S)) (hc : CO T) (v1 : RW S v (((hL S).filter (hasO S)).filter fun x => decide (0 < lgp S r1 r2 x)) (lgp S r1 r2)) (v2 : ∀ t, t < zN S 10 → mA v 51 t = mA w 51 t ∧ (gone S r1 r2 t → mA v 52 t = 3) ∧ (¬ gone S r1 r2 t → mA v 52 t = mA w 52 t)) (v3 : RB v (rowS T)) (hV : VF w v) : Rel B k (drS T) v ∧ cT T (zN S 10) = cT S (zN S 10) := by
  obtain ⟨a1, a2, a3, a4, a5⟩ := hg
  have eH : hL T = hL S := by unfold hL; rw [a2]
  have hp : ∀ x, x ∈ hL S → zA T 204 x = lgp S r1 r2 x := fun x hx => by
    unfold lgp
    by_cases q : lgb S r1 r2 x = true
    · rw [if_pos q]; exact (a4 x).1 ⟨hx, lgb_t.mp q⟩
    · rw [if_neg q]; exact (a4 x).2 fun r => q (lgb_t.mpr r.2)
  have hv : ∀ x, x ∈ hL S → tI (zA S 204 x) 1 99 := fun x hx => (h.ho.2.1 x hx).2.1
  have c1 : ∀ x, x ∈ hL S → tI (lgp S r1 r2 x) 0 99 ∧ (lgp S r1 r2 x).toInt ≤ (zA S 204 x).toInt := fun x hx => by
    have t := tI_of (hv x hx)
    have e0 : (0 : Int32).toInt = 0 := rfl
    unfold lgp; split
    · exact ⟨⟨by decide, by decide⟩, by omega⟩
    · exact ⟨⟨by omega, t.2⟩, Int.le_refl _⟩
  have pz : ∀ x, x ∈ hL S → (decide (0 < lgp S r1 r2 x) = decide (¬ lgp S r1 r2 x = 0)) := fun x hx => by
    rw [decide_eq_decide]; exact (pos_0 (tI_of (c1 x hx).1).1).1
  have t1 : hL (drS T) = (hL S).filter fun x => decide (¬ lgp S r1 r2 x = 0) := by
    rw [drS_L, eH]
    refine List.filter_congr fun x hx => ?_
    rw [hp x hx]; exact pz x hx
  have t2 : ∀ x, x ∈ hL S → ¬ lgp S r1 r2 x = 0 → zA (drS T) 204 x = lgp S r1 r2 x := fun x hx _ => hp x hx
  have uniq : ∀ x t, x ∈ hL S → zO S 205 x = some t → gone S r1 r2 t → lgc S r1 r2 x := fun x t hx ht ⟨y, y1, y2, y3⟩ => by
    have e1 := ((h.ho.2.1 x hx).2.2.2.2.2 t ht).2.1
    have e2 := ((h.ho.2.1 y y1).2.2.2.2.2 t y3).2.1
    rw [Option.some.inj (e1.symm.trans e2)]; exact y2
  have s5 : ∀ t, (gone S r1 r2 t → zA T 1005 t = 3) ∧ (¬ gone S r1 r2 t → zA T 1005 t = zA S 1005 t) := a5
  have gon : ∀ t, gone S r1 r2 t → t < zN S 10 ∧ (zA S 1005 t = 0 ∨ zA S 1005 t = 1) := fun t ⟨y, y1, y2, y3⟩ => by
    have := (h.ho.2.1 y y1).2.2.2.2.2 t y3
    exact ⟨this.1, this.2.2.1⟩
  have SFd : SF S (drS T) := a1.tr drS_SF
  have CHd : CH (drS T) := hc.drop.2.2.2.2.2
  have red := h.red (T := drS T) (v := v) (p := lgp S r1 r2) (st := zA T 1005) (q := zA S 1004) ⟨fun f hf => SFd.1 f (by omega), fun f _ => by rw [SFd.2.1], fun f hf => SFd.2.2.1 f (by omega), fun f _ => by rw [SFd.2.2.2.2.2.2]⟩ t1 t2 (fun t ht => ⟨by rw [drS_A, a3], rfl⟩) CHd ⟨hV.1 45 (by decide), fun k hk => hV.2 k (by omega)⟩ (by
      have e : ((hL S).filter (hasO S)).filter (fun x => decide (0 < lgp S r1 r2 x)) = ((hL S).filter (hasO S)).filter fun x => decide (¬ lgp S r1 r2 x = 0) := List.filter_congr fun x hx => pz x (List.mem_filter.mp hx).1
      rw [← e]; exact v1) (fun t ht => by
      obtain ⟨u1, u2, u3⟩ := v2 t ht
      obtain ⟨b1, b2, b3, b4, b5, -⟩ := h.ta.2.2.2 t ht
      refine ⟨u1.trans b4, ?_⟩
      by_cases q : gone S r1 r2 t
      · rw [u2 q, (s5 t).1 q]
      · rw [u3 q, (s5 t).2 q]; exact b5) v3 (fun x hx => (c1 x hx).1) (fun x hx hq t ht => by
      have nl : ¬ lgb S r1 r2 x = true := fun r => hq (if_pos r)
      have ng : ¬ gone S r1 r2 t := fun r => nl (lgb_t.mpr (uniq x t hx ht r))
      refine ⟨(s5 t).2 ng, ?_⟩
      have e : lgp S r1 r2 x = zA S 204 x := if_neg nl
      rw [e]; exact ((h.ho.2.1 x hx).2.2.2.2.2 t ht).2.2.2) (fun x hx hq t ht => by
      have nl : lgb S r1 r2 x = true := by
        refine Classical.byContradiction fun r => ?_
        have e : lgp S r1 r2 x = zA S 204 x := if_neg r
        rw [e] at hq
        have := tI_of (hv x hx)
        rw [hq] at this
        exact absurd this.1 (by decide)
      rw [(s5 t).1 ⟨x, hx, lgb_t.mp nl, ht⟩]
      decide) (fun t ht => by
      by_cases q : gone S r1 r2 t
      · rw [(s5 t).1 q]; exact ⟨fun r => absurd r (by decide), fun r => absurd r (by decide)⟩
      · rw [(s5 t).2 q]; exact ⟨id, id⟩) (fun t ht => by
      obtain ⟨b1, b2, b3, b4, b5, b6, b7, -⟩ := h.ta.2.2.2 t ht
      refine ⟨?_, b6⟩
      by_cases q : gone S r1 r2 t
      · rw [(s5 t).1 q]; exact ⟨by decide, by decide⟩
      · rw [(s5 t).2 q]; exact b7) (fun a l ha hl => by
      refine Int.le_trans (h.hbk t1 t2 (SFd.1 202 (by decide)) (by rw [SFd.2.1]) c1 a l) ?_
      rw [SFd.2.2.2.2.1 0 (by decide)]
      exact (h.hs.1 a l ha hl).2)
  obtain ⟨ho, hs, hm, ta, ap, ro⟩ := red
  have hA : ∀ f, f ≠ 204 ∧ f ≠ 402 ∧ f ≠ 1004 ∧ f ≠ 1005 → zA (drS T) f = zA S f := SFd.1
  have hO : ∀ f, True → zO (drS T) f = zO S f := fun f _ => by rw [SFd.2.1]
  have hL : ∀ f, f ≠ 1107 → zL (drS T) f = zL S f := SFd.2.2.1
  have hC : ∀ f, f ≠ 3 ∧ f ≠ 4 → zC (drS T) f = zC S f := SFd.2.2.2.2.1
  have hN : ∀ f, True → zN (drS T) f = zN S f := fun f _ => by rw [SFd.2.2.2.2.2.2]
  have hM : zM (drS T) = zM S := SFd.2.2.2.2.2.1
  have hI : ∀ f, f ≠ 39 → mI v f = mI w f := hV.1
  have hB : ∀ f, f ≠ 40 ∧ f ≠ 41 ∧ f ≠ 42 ∧ f ≠ 43 ∧ f ≠ 44 ∧ f ≠ 51 ∧ f ≠ 52 ∧ f ≠ 58 ∧ f ≠ 59 → mA v f = mA w f := hV.2
  have li : g_li (drS T) v := h.liOf (fun f hf => hA f (by omega)) (hO 400 trivial) (hL 704 (by decide)) ⟨hN 7 trivial, hN 4 trivial⟩ (fun k hk => hB k (by omega)) fun j hj => by
    have := h.li_red (T := drS T) t1 t2 (hO 201 trivial) (fun j hj => CHd.2.1 j (by rw [hN 4 trivial]; exact hj)) c1 j hj
    exact ⟨this.1, this.2.2⟩
  refine ⟨⟨(cg_sl (hA 900 (by decide)) (hA 901 (by decide)) (hA 903 (by decide)) (hA 904 (by decide)) (hO 902 (by decide)) (hB 4 (by decide)) (hB 5 (by decide)) (hB 6 (by decide)) (hB 7 (by decide)) (hB 8 (by decide)) h.sl), (cg_it (hA 300 (by decide)) (hA 301 (by decide)) (hA 302 (by decide)) (hA 303 (by decide)) (hA 304 (by decide)) (hA 305 (by decide)) (hB 9 (by decide)) (hB 10 (by decide)) (hB 11 (by decide)) (hB 12 (by decide)) (hB 13 (by decide)) h.it), (cg_ba (hA 1115 (by decide)) (hB 14 (by decide)) h.ba), (cg_sc (hA 1116 (by decide)) (hA 1118 (by decide)) (hA 1117 (by decide)) (hI 1 (by decide)) (hI 2 (by decide)) (hI 3 (by decide)) h.sc), (cg_lo (hN 5 (by decide)) (hL 1103 (by decide)) (hA 500 (by decide)) (hA 502 (by decide)) (hA 503 (by decide)) (hO 501 (by decide)) (hI 15 (by decide)) (hB 16 (by decide)) (hB 17 (by decide)) (hB 18 (by decide)) h.lo), (cg_be (hL 1104 (by decide)) (hN 5 (by decide)) (hA 502 (by decide)) h.be), (cg_no (hN 6 (by decide)) (hL 1105 (by decide)) (hO 600 (by decide)) (hA 601 (by decide)) (hA 602 (by decide)) (hI 22 (by decide)) (hB 23 (by decide)) (hB 24 (by decide)) (hB 25 (by decide)) h.no), (cg_ca (hC 1110 (by decide)) (hB 26 (by decide)) h.ca), (cg_aw (hC 1111 (by decide)) (hN 7 (by decide)) (hA 705 (by decide)) (hB 33 (by decide)) h.aw), (cg_or (hN 7 (by decide)) (hN 72 (by decide)) (hL 1106 (by decide)) (hA 700 (by decide)) (hA 701 (by decide)) (hA 702 (by decide)) (hA 703 (by decide)) (hA 705 (by decide)) (hI 27 (by decide)) (hB 28 (by decide)) (hB 29 (by decide)) (hB 30 (by decide)) (hB 31 (by decide)) (hB 32 (by decide)) h.or), li, (cg_bk (hC 0 (by decide)) (hC 1 (by decide)) (hN 5 (by decide)) (hO 501 (by decide)) (hB 19 (by decide)) h.bk), (cg_nn (hC 0 (by decide)) (hC 2 (by decide)) h.nn), (cg_tr (hC 2 (by decide)) (hC 0 (by decide)) (hB 20 (by decide)) h.tr), (cg_db (hC 5 (by decide)) (hB 21 (by decide)) h.db), (cg_mv (hA 7 (by decide)) (hN 60 (by decide)) hM (hC 0 (by decide)) h.mv), ho, hs, hm, ta, ap, ro, (cg_st (hN 7 (by decide)) (hA 705 (by decide)) (hN 5 (by decide)) (hC 0 (by decide)) (hL 704 (by decide)) (hA 403 (by decide)) h.st), (cg_bx (hN 7 (by decide)) (hA 705 (by decide)) (hA 706 (by decide)) (hC 1112 (by decide)) (hA 302 (by decide)) (hA 303 (by decide)) (hA 304 (by decide)) (hO 501 (by decide)) (hN 5 (by decide)) (hB 34 (by decide)) (hB 35 (by decide)) h.bx)⟩, ?_⟩
  refine cT_lt _ fun t ht => ?_
  rw [a1.1 1006 (by decide)]
  by_cases q : gone S r1 r2 t
  · rw [(s5 t).1 q]
    have : ¬ zA S 1005 t = 2 := by
      rcases (gon t q).2 with e | e <;> (rw [e]; decide)
    rw [if_neg this, if_neg (show ¬ (3 : Int32) = 2 by decide)]
  · rw [(s5 t).2 q]
/-- ending the tasks that are let go, in the reference -/
theorem Rel.lgRow {B k : Nat} (h : Rel B k S w) {r1 r2 : Option Nat} (hg : LG S T r1 r2 (hL S)) {cc : Nat → Bool} (hcc : ∀ t, t < zN S 10 → (cc t = true ↔ gone S r1 r2 t)) (r : Nat) (hr : r < 3) : rowS T r = (rowS S r).filter fun t => !cc t := by
  obtain ⟨a1, a2, a3, a4, a5⟩ := hg
  unfold rowS
  rw [a2, List.filter_filter]
  refine List.filter_congr fun t ht => ?_
  have htN := ((h.ro.1 r hr).2.2.2.2.2.1 t ht).1
  by_cases q : cc t = true
  · rw [(a5 t).1 ((hcc t htN).mp q), q]
    simp
  · rw [(a5 t).2 (fun r => q ((hcc t htN).mpr r))]
    simp [q]
/-- one task more has ended -/
theorem ends_step {M : List Nat} {f : Nat → Int32} {R : Nat → List Nat} {cc : Nat → Bool} {i : Nat} {ρ : Option Nat} (hw : RW S v M f) (hb : RB v (fun r => (R r).filter fun t => !(decide (t < i) && cc t))) (h52 : ∀ j, mA v 52 j = if j < i ∧ cc j = true then 3 else mA w 52 j) (hi : i < 60) (hc : cc i = true) (hf : ∀ x, x ∈ M → zO S 205 x = some i → f x = 0) (h53 : mA v 53 i = fcI ρ) (hρ : ∀ r, ρ = some r → r < 3) (hR : ∀ r, r < 3 → i ∈ R r → ρ = some r) : ∃ u, g_X12_ends (nI i) 3 v = some ((), u) ∧ RW S u M f ∧ RB u (fun r => (R r).filter fun t => !(decide (t < i + 1) && cc t)) ∧ (∀ j, mA u 52 j = if j < i + 1 ∧ cc j = true then 3 else mA w 52 j) ∧ mI u = mI v ∧ ∀ k, k ≠ 43 ∧ k ≠ 52 ∧ k ≠ 58 ∧ k ≠ 59 → mA u k = mA v k := by
  obtain ⟨u, e1, e2, e3, e4, e5, e6⟩ := k_ends 3 hw hb hi h53 hρ fun r hr hm => hR r hr (List.mem_filter.mp hm).1
  refine ⟨u, e1, e2.cg fun x hx => ?_, e3.cg fun r hr => ?_, fun j => ?_, e5, e6⟩
  · split
    · rename_i q; exact (hf x hx q).symm
    · rfl
  · rw [List.filter_filter]
    refine List.filter_congr fun t _ => ?_
    by_cases q : t = i
    · subst q; simp [hc]
    · have : decide (t < i + 1) = decide (t < i) := by rw [decide_eq_decide]; omega
      rw [this]; simp [q]
  · rw [e4 j, h52 j]
    by_cases q : j = i
    · subst q; rw [if_pos rfl, if_pos ⟨Nat.lt_succ_self _, hc⟩]
    · rw [if_neg q]
      by_cases q2 : j < i ∧ cc j = true
      · rw [if_pos q2, if_pos ⟨by omega, q2.2⟩]
      · rw [if_neg q2, if_neg (fun r => q2 ⟨by omega, r.2⟩)]
theorem ends_skip {R : Nat → List Nat} {cc : Nat → Bool} {i : Nat} (hb : RB v (fun r => (R r).filter fun t => !(decide (t < i) && cc t))) (h52 : ∀ j, mA v 52 j = if j < i ∧ cc j = true then 3 else mA w 52 j) (hc : ¬ cc i = true) : RB v (fun r => (R r).filter fun t => !(decide (t < i + 1) && cc t)) ∧ ∀ j, mA v 52 j = if j < i + 1 ∧ cc j = true then 3 else mA w 52 j := by
  refine ⟨hb.cg fun r hr => List.filter_congr fun t _ => ?_, fun j => ?_⟩
  · by_cases q : t = i
    · subst q; simp [hc]
    · have : decide (t < i + 1) = decide (t < i) := by rw [decide_eq_decide]; omega
      rw [this]
  · rw [h52 j]
    by_cases q2 : j < i ∧ cc j = true
    · rw [if_pos q2, if_pos ⟨by omega, q2.2⟩]
    · rw [if_neg q2, if_neg]
      rintro ⟨r1, r2⟩
      by_cases q : j = i
      · subst q; exact hc r2
      · exact q2 ⟨by omega, r2⟩
end
