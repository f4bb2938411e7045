/-! the law, whole: from nothing to its end -/
theorem MO_nx {m : Nat} {arr : Nat → Nat} {σ : St} (h : iW m arr σ (nF 18 6 216 3)) : MO m arr σ w0 := h
theorem whole_pure {L : Nat} (hL : L ≤ 3584) (xs : Nat → Int32) (d0 mm : Nat) : w_L_law L xs 601024 7293034 (σi d0 mm) := by
  have hC : ∀ b, sC (σi d0 mm) b % 2 = 1 ↔ b = d0 := fun b => by
    show ((if b = d0 then 1 else 0) + (if b = mm then 2 else 0)) % 2 = 1 ↔ _
    split <;> split <;> simp_all
  unfold w_L_law
  refine ⟨601023, 7293015, rfl, rfl, fun a1 s1 z1 e1 => ⟨61, 3276, 600962, 7289739, rfl, rfl, ?_⟩⟩
  have hb : a1 ≠ d0 := fun r => by
    rw [r] at z1
    have : (if d0 = d0 then 50 else 0) = 0 := z1
    rw [if_pos rfl] at this
    cases this
  have v0 : HVC (sC (σi d0 mm)) (σi d0 mm) 1 (fun _ => d0) (fun _ => cO 50) := by
    refine ⟨fun i hi => ⟨?_, by show ¬ 50 = 0; decide⟩, fun i j hi hj _ => by omega, fun a ha => ?_, rfl⟩
    · refine Prod.ext ?_ rfl
      show (if d0 = d0 then 50 else 0) = 50
      exact if_pos rfl
    · exact Prod.ext ha rfl
  have v1 := v0.newO z1 (by decide) e1
  refine q_cls v1 hC fun s2 ad ce hv hA hB hE ea0 ea1 => ?_
  intro _ _
  subst ea0
  subst ea1
  obtain ⟨R0, T0⟩ := rc_0 hv hA hB hE ((hC (ad 0)).mpr rfl)
  refine ⟨600961, 7289674, rfl, rfl, fun a2 s3 z2 e2 => ⟨56, 17614, 600905, 7272060, rfl, rfl, ?_⟩⟩
  have f2 := hv.2.2.1 a2 z2
  have hR : iR [] a2 (fun _ => a2) s3 := by
    subst e2
    refine ⟨fun k h => absurd h List.not_mem_nil, fun k j h => absurd h List.not_mem_nil, if_pos rfl, fun f => if_pos rfl, ?_, fun _ _ => rfl⟩
    exact congrArg (fun c : Cell => c.2.2.2.1) f2
  refine r_init hR fun arr s4 hW => ?_
  intro x4 q4
  refine ⟨by decide, by decide, 600904, 7272059, rfl, rfl, fun a3 s5 z3 e3 => ⟨513 + 1, ?_⟩⟩
  have R1 : RC (s0D ad) s3 S0 := R0.congr fun a h _ => by
    have : a ≠ a2 := fun r => h (by rw [r]; exact z2)
    subst e2
    exact ⟨if_neg this, cEq_newO 13 a2 s2 this⟩
  have R2 : RC (s0D ad) s4 S0 := R1.congr fun a h hk => by
    rcases q4 with q4 | q4
    · cases q4
    · exact ⟨x4 a h, q4 a h (by rw [hk]; decide)⟩
  have R3 : RC (s0D ad) s5 S0 := R2.congr fun a h _ => by
    have : a ≠ a3 := fun r => h (by rw [r]; exact z3)
    subst e3
    exact ⟨if_neg this, cEq_newA 23 a3 _ s4 this⟩
  have M1 : MO a2 arr s5 w0 := (MO_nx hW).keep fun a h _ => by
    have : a ≠ a3 := fun r => h (by rw [r]; exact z3)
    subst e3
    exact ⟨if_neg this, cEq_newA 23 a3 _ s4 this⟩
  have hJ : J (ad 1) a2 a3 arr (s0D ad) s5 S0 w0 := by
    refine ⟨R3, T0, M1, ?_, ?_⟩
    · subst e3; exact if_pos rfl
    · subst e3; exact if_pos rfl
  exact law_loop GG_gb GG_nx (fun m S w x0 x1 x2 hm g => s_slot g hm x0 x1 x2) (fun m S w x0 x1 x2 x3 hm g => s_face g hm x0 x1 x2 x3) (fun m S w x0 x1 x2 x3 x4 x5 hm g => s_item g hm x0 x1 x2 x3 x4 x5) (fun m S w x0 x1 x2 hm g h => s_bar g hm x0 x1 x2 h) (fun m S w x0 x1 hm g => s_lot g hm x0 x1) (fun m S w x0 x1 hm g => s_stock g hm x0 x1) (fun m S w x0 x1 hm g => s_stockAnew g hm x0 x1) (fun m S w x0 x1 hm g => s_free g hm x0 x1) (fun m S w x0 hm g => s_room g hm x0) (fun m S w x0 x1 hm g => s_notice g hm x0 x1) (fun m S w x0 x1 x2 hm g => s_receive g hm x0 x1 x2) (fun m S w x0 hm g => s_close g hm x0) (fun m S w x0 hm g => s_others g hm x0) (fun m S w x0 x1 hm g => s_putAway g hm x0 x1) (fun m S w hm g => s_refill g hm) (fun m S w x0 x1 x2 hm g h => s_order g hm x0 x1 x2 h) (fun m S w x0 x1 x2 hm g => s_line g hm x0 x1 x2) (fun m S w hm g => s_allocate g hm) (fun m S w x0 x1 hm g => s_lacks g hm x0 x1) (fun m S w x0 x1 x2 hm g => s_held g hm x0 x1 x2) (fun m S w x0 x1 hm g => s_wave g hm x0 x1) (fun m S w x0 x1 hm g => s_give g hm x0 x1) (fun m S w x0 hm g => s_pass g hm x0) (fun m S w x0 hm g => s_where g hm x0) (fun m S w x0 hm g => s_doing g hm x0) (fun m S w hm g => s_tasks g hm) (fun m S w x0 hm g => s_taskAt g hm x0) (fun m S w hm g => s_standstills g hm) (fun m S w x0 x1 x2 hm g => s_lose g hm x0 x1 x2) (fun m S w x0 x1 hm g => s_count g hm x0 x1) (fun m S w x0 x1 x2 hm g => s_find g hm x0 x1 x2) (fun m S w x0 hm g => s_boxes g hm x0) (fun m S w x0 x1 hm g => s_boxAt g hm x0 x1) (fun m S w x0 hm g => s_send g hm x0) (fun m S w x0 x1 hm g => s_sent g hm x0 x1) (fun m S w x0 x1 hm g => s_received g hm x0 x1) (fun m S w x0 x1 x2 hm g => s_comeBack g hm x0 x1 x2) (fun m S w x0 x1 x2 hm g h => s_judge g hm x0 x1 x2 h) (fun m S w x0 hm g => s_recall g hm x0) (fun m S w hm g => s_bill g hm) hL 513 0 rfl 513 (Nat.le_refl _) (s0D ad) s5 S0 w0 600904 7272059 hJ z_GG ⟨by show 600000 ≤ 0 + 600904; decide, by show 7270000 ≤ 0 + 7272059; decide⟩
