/-! what holds at the start -/
def w0 : MS := wI (nF 18 6 216 3)
theorem w0_i (k : Nat) : mI w0 k = 0 := rfl
theorem w0_a {k j n : Nat} (hn : nF 18 6 216 3 k = n) (hj : j < n) : mA w0 k j = vI k := by
  show (if j < nF 18 6 216 3 k then vI k else 0) = vI k
  rw [hn, if_pos hj]
theorem w0_z {k j : Nat} (hn : nF 18 6 216 3 k = 0) : mA w0 k j = 0 := by
  show (if j < nF 18 6 216 3 k then vI k else 0) = 0
  rw [hn, if_neg (Nat.not_lt_zero j)]
theorem z_sl : g_sl S0 w0 := fun s hs => ⟨w0_z rfl, w0_a rfl hs, w0_a rfl hs, w0_z rfl, w0_z rfl, (fun i h => by cases h), (by show tI 100 1 200; unfold tI; decide), (by show tI 0 0 99; unfold tI; decide), (by show tI 0 0 99; unfold tI; decide)⟩
theorem z_it : g_it S0 w0 := fun i hi => ⟨rfl, w0_z rfl, w0_a rfl hi, w0_a rfl hi, w0_z rfl, w0_a rfl hi, (by show tI 1 1 9; unfold tI; decide), (by show tI 1 1 20; unfold tI; decide), ⟨0, by decide, rfl⟩, (by show tI 1 1 12; unfold tI; decide)⟩
theorem z_isB : ∀ g, g < 4 → ∀ o, o < 4 → ¬ isB 0 g o := by unfold isB; decide
theorem z_ba : g_ba S0 w0 := fun g o hg ho => by
  have e : mA w0 14 (4 * g + o) = 0 := w0_z rfl
  rw [e]
  exact ⟨Or.inl rfl, fun h => absurd h (by decide), fun h => absurd h (z_isB g hg o ho)⟩
theorem z_sc : g_sc S0 w0 := ⟨rfl, rfl, rfl⟩
theorem z_lo : g_lo S0 w0 := ⟨Nat.zero_le _, rfl, rfl, fun l h => absurd h (Nat.not_lt_zero l), fun l _ _ => w0_z rfl⟩
theorem z_be : g_be S0 w0 := ⟨List.Perm.refl [], List.Pairwise.nil⟩
theorem z_no : g_no S0 w0 := ⟨Nat.zero_le _, rfl, rfl, fun l h => absurd h (Nat.not_lt_zero l), fun l _ _ => w0_z rfl⟩
theorem z_ca : g_ca S0 w0 := fun j _ => (w0_z (k := 26) (j := j) rfl).symm
theorem z_aw : g_aw S0 w0 := ⟨fun j _ => (w0_z (k := 33) (j := j) rfl).symm, fun _ _ _ _ _ => rfl⟩
theorem z_or : g_or S0 w0 := ⟨Nat.zero_le _, rfl, rfl, rfl, fun l h => absurd h (Nat.not_lt_zero l), fun l _ _ => ⟨w0_z rfl, w0_z rfl⟩⟩
theorem z_li : g_li S0 w0 := ⟨fun o h => absurd h (Nat.not_lt_zero o), fun o _ _ _ _ h => absurd h (Nat.not_lt_zero o), fun _ _ _ _ _ => w0_z rfl⟩
theorem z_bk : g_bk S0 w0 := ⟨fun j _ => (w0_z (k := 19) (j := j) rfl).symm, fun _ _ _ _ => rfl, fun _ _ _ _ _ => rfl⟩
theorem z_nn : g_nn 0 S0 := ⟨by decide, fun _ _ => (by show tI 0 0 0; unfold tI; decide), fun _ _ => (by show tI 0 0 0; unfold tI; decide)⟩
theorem z_tr : g_tr S0 w0 := ⟨fun j _ => (w0_z (k := 20) (j := j) rfl).symm, fun _ _ _ => rfl⟩
theorem z_db : g_db S0 w0 := fun j hj => by
  rw [w0_a (k := 21) (n := 216) rfl hj]
  show (0 : Int32) = vI 21 + 1
  decide
theorem z_mv : g_mv S0 0 := ⟨by decide, rfl, Nat.zero_le _, (by show 128 ≤ 128; decide), (by show 128 ≤ 4096; decide), ⟨7, rfl⟩, fun _ _ _ _ => rfl⟩
theorem z_ho : g_ho S0 w0 := ⟨List.Pairwise.nil, fun h q => absurd q List.not_mem_nil, List.Pairwise.nil⟩
theorem z_hs : g_hs S0 w0 := ⟨fun _ _ _ _ => ⟨rfl, (by show (0 : Int) ≤ (0 : Int32).toInt; decide)⟩, fun j h => absurd h (Nat.not_lt_zero j)⟩
theorem z_hm : g_hm S0 w0 := ⟨rfl, fun k h q => by cases q⟩
theorem z_ta : g_ta S0 w0 := ⟨Nat.zero_le _, rfl, rfl, fun l h => absurd h (Nat.not_lt_zero l)⟩
theorem z_ap : g_ap S0 w0 := ⟨fun _ _ _ _ => rfl, fun t _ _ h => absurd h (Nat.not_lt_zero t)⟩
theorem z_ro : g_ro S0 w0 := ⟨fun r hr => ⟨w0_a rfl hr, Or.inl rfl, w0_z rfl, fun k t q => (by cases q), List.Pairwise.nil, fun t q => absurd q List.not_mem_nil, fun t q => absurd q List.not_mem_nil⟩, fun _ _ _ _ _ h => absurd rfl h, fun _ _ t _ _ q => absurd q List.not_mem_nil, fun t h => absurd h (Nat.not_lt_zero t)⟩
theorem z_st : g_st S0 w0 := ⟨fun o h => absurd h (Nat.not_lt_zero o), fun _ _ _ _ _ => rfl⟩
theorem z_bx : g_bx S0 w0 := ⟨fun o h => absurd h (Nat.not_lt_zero o), fun _ _ _ _ _ => rfl, fun _ _ _ _ h => absurd rfl h⟩
theorem z_rel : Rel 0 0 S0 w0 := ⟨z_sl, z_it, z_ba, z_sc, z_lo, z_be, z_no, z_ca, z_aw, z_or, z_li, z_bk, z_nn, z_tr, z_db, z_mv, z_ho, z_hs, z_hm, z_ta, z_ap, z_ro, z_st, z_bx⟩
theorem z_GG : GG 0 S0 w0 := ⟨Nat.zero_le _, ⟨Nat.zero_le _, Nat.zero_le _⟩, ⟨fun _ _ _ => Nat.zero_le _, fun _ _ => Nat.zero_le _, fun _ _ => ⟨Nat.zero_le _, fun _ => rfl⟩⟩, 0, 0, Nat.zero_le _, Nat.zero_le _, z_rel⟩
theorem GG_nx (m : Nat) (S : Ss) (w : MS) (hm : m < 512) (g : GG m S w) : GG (m + 1) S w := by
  obtain ⟨-, h2, h3, B, k, h4, h5, h6⟩ := g
  exact ⟨hm, ⟨by have := h2.1; omega, by have := h2.2; omega⟩, h3, B, k, by omega, by omega, h6⟩
theorem GG_gb : GB GG := fun m S w g => by
  obtain ⟨h1, ⟨h2, h3⟩, ⟨c1, c2, c3⟩, B, k, h4, h5, h6⟩ := g
  have h60 := h6.mv.2.2.2.2.1
  have a0 := c1 1103 (by decide) (by decide)
  have a1 := c1 1104 (by decide) (by decide)
  have a2 := c1 1105 (by decide) (by decide)
  have a3 := c1 1106 (by decide) (by decide)
  have a4 := c1 1107 (by decide) (by decide)
  have a5 := c1 1108 (by decide) (by decide)
  have b0 := c2 0 (by decide)
  have b1 := c2 1 (by decide)
  have b2 := c2 2 (by decide)
  have d0 := (c3 0 (by decide)).1
  have d1 := (c3 1 (by decide)).1
  have d2 := (c3 2 (by decide)).1
  have d3 := (c3 3 (by decide)).1
  have d4 := (c3 4 (by decide)).1
  have d5 := (c3 5 (by decide)).1
  have d6 := (c3 6 (by decide)).1
  have d7 := (c3 7 (by decide)).1
  unfold capS at h3
  exact ⟨by omega, by omega⟩
