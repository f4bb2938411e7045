section
variable {m : Nat} {S T : Ss} {w v : MS}
theorem o_rel {B k c : Nat} {x y z : Int32} (hR : Rel B k S w) (hn : zN S 7 < 8) (h1 : inI x 0 9 = true) (hy : y = 0 ∨ y = 1) : Rel B k (oL S c x y z) (oV S w x y z) := by
  have ex := o_ex (S := S) (w := w) (c := c) (x := x) (y := y) (z := z)
  exact ⟨hR.sl, hR.it, hR.ba, hR.sc, hR.lo, hR.be, hR.no, hR.ca, hR.aw, o_or hR hn h1 hy, o_li hR hn, hR.bk, hR.nn, hR.tr, hR.db, hR.mv, ex.ho hR.ho, hR.hs, ex.hm hR.ho hR.hm, ex.ta hR.ta, hR.ap, hR.ro, o_st hR hn, trivial⟩
end
