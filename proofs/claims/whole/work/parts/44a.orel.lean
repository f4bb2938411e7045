section
variable {m : Nat} {S T : Ss} {w v : MS}
theorem o_bx {B k c : Nat} {x y z : Int32} (hR : Rel B k S w) (hn : zN S 7 < 8) : g_bx (oL S c x y z) (oV S w x y z) := by
  obtain ⟨n1, n2, n3⟩ := hR.bx
  have hz5 : zA (oL S c x y z) 705 = fun o => if o = zN S 7 then 0 else zA S 705 o := funext (oL_705 S c x y z)
  have hz6 : ∀ o, o < zN S 7 → zA (oL S c x y z) 706 o = zA S 706 o := fun o ho => by
    unfold oL
    rw [zA_pL]
    show (if 706 / 100 = 7 ∧ o = zN S 7 then (0 : Int32) else zA S 706 o) = _
    rw [if_neg (fun r => by omega)]
  unfold g_bx pkd itS
  rw [hz5, oL_N7, oL_N S c x y z 5 (by decide), oL_Af S c x y z 302 (by decide), oL_Af S c x y z 303 (by decide), oL_Af S c x y z 304 (by decide), oL_Of S c x y z 501 (by decide), oL_C, oV_B S w x y z 34 (by decide), oV_B S w x y z 35 (by decide)]
  dsimp only
  refine And.intro (fun o ho hs => ?_) (And.intro (fun o i ho hi hs => ?_) n3)
  · by_cases q : o = zN S 7
    · rw [if_pos q] at hs; exact absurd rfl hs
    · rw [if_neg q] at hs
      rw [hz6 o (by omega)]
      exact n1 o (by omega) hs
  · refine n2 o i ho hi fun h9 => ?_
    have := hs (by omega)
    rw [if_neg (show ¬ o = zN S 7 by omega)] at this
    exact this
theorem o_aw {B k c : Nat} {x y z : Int32} (hR : Rel B k S w) (hn : zN S 7 < 8) : g_aw (oL S c x y z) (oV S w x y z) := by
  obtain ⟨n1, n2⟩ := hR.aw
  have hz5 : zA (oL S c x y z) 705 = fun o => if o = zN S 7 then 0 else zA S 705 o := funext (oL_705 S c x y z)
  unfold g_aw
  rw [hz5, oL_N7, oL_C, oV_B S w x y z 33 (by decide)]
  dsimp only
  refine And.intro n1 fun o l ho hl hs => n2 o l ho hl fun h9 => ?_
  have := hs (by omega)
  rw [if_neg (show ¬ o = zN S 7 by omega)] at this
  exact this
theorem o_rel {B k c : Nat} {x y z : Int32} (hR : Rel B k S w) (hn : zN S 7 < 8) (h1 : inI x 0 9 = true) (hy : y = 0 ∨ y = 1) : Rel B k (oL S c x y z) (oV S w x y z) := by
  have ex := o_ex (S := S) (w := w) (c := c) (x := x) (y := y) (z := z)
  exact ⟨hR.sl, hR.it, hR.ba, hR.sc, hR.lo, hR.be, hR.no, hR.ca, o_aw hR hn, o_or hR hn h1 hy, o_li hR hn, hR.bk, hR.nn, hR.tr, hR.db, hR.mv, ex.ho hR.ho, hR.hs, ex.hm hR.ho hR.hm, ex.ta hR.ta, hR.ap, hR.ro, o_st hR hn, o_bx hR hn⟩
end
