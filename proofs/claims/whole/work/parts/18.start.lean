
/-! THE START: nothing made yet -/
def σi (d0 mm : Nat) : St := ((fun a => if a = d0 then 50 else 0), (fun _ _ => 0), (fun _ _ => none), (fun _ _ => 0), (fun _ => 0), (fun _ _ => none), (fun a => (if a = d0 then 1 else 0) + (if a = mm then 2 else 0)))
theorem σi_k {d0 mm a : Nat} : sK (σi d0 mm) a = if a = d0 then 50 else 0 := rfl
theorem cE_i {cA : Nat → ClassId} {d0 mm a : Nat} {e : va_E} (h : cE cA (σi d0 mm) a = some e) : a = d0 := Classical.byContradiction fun q => cE_k h (by rw [σi_k, if_neg q])
theorem WT_i {G : GX} : WT G (σi G.2.2.1 G.2.2.2.2) := by
  refine ⟨fun a h => ?_, fun f a b h => absurd (show (none : Option Nat) = some b from h) (fun q => by cases q), fun a j b h => absurd (show (none : Option Nat) = some b from h) (fun q => by cases q), fun a => ?_, fun a => ?_, rfl, ?_⟩
  · rw [σi_k] at h
    by_cases q : a = G.2.2.1
    · exact Or.inr q
    · rw [if_neg q] at h; exact absurd rfl h
  · show ((if a = G.2.2.1 then 1 else 0) + (if a = G.2.2.2.2 then 2 else 0)) % 2 = 1 ↔ _
    split <;> split <;> simp_all
  · show 2 ≤ (if a = G.2.2.1 then 1 else 0) + (if a = G.2.2.2.2 then 2 else 0) ↔ _
    split <;> split <;> simp_all
  · rw [σi_k, if_pos rfl]
theorem gin_all {s : State} {args : Array Value} (hts : ∀ w ∈ gTB, w.before args s = true) : ∀ ci : Nat, ∃ (cC : ClassId) (iS : Nat → Nat), ∀ q : vw_C, gCl[ci]? = some q → u_Kn s q.1 q.2.1 q.2.2 cC iS := by
  intro ci
  have H : ∀ (C : String) (T : u_T) (N : Nat), gCl[ci]? = some (C, T, N) → (∀ w ∈ u_ws C T N, w ∈ gTB) → Cond.instantiable C N ∈ gTB → ∃ (cC : ClassId) (iS : Nat → Nat), ∀ q : vw_C, gCl[ci]? = some q → u_Kn s q.1 q.2.1 q.2.2 cC iS := by
    intro C T N h1 h2 h3
    obtain ⟨cC, iS, h⟩ := u_known hts h2 (hts _ h3)
    refine ⟨cC, iS, fun q hq => ?_⟩
    rw [h1] at hq
    cases hq
    exact h
  match ci with
  | 0 => exact H RX0 TX0 8 rfl gin0 lk_tX0
  | 1 => exact H RX1 TX1 2 rfl gin1 lk_tX1
  | 2 => exact H RX2 TX2 6 rfl gin2 lk_tX2
  | 3 => exact H RX3 TX3 6 rfl gin3 lk_tX3
  | 4 => exact H RX4 TX4 4 rfl gin4 lk_tX4
  | 5 => exact H RX5 TX5 4 rfl gin5 lk_tX5
  | 6 => exact H RX6 TX6 3 rfl gin6 lk_tX6
  | 7 => exact H RX7 TX7 7 rfl gin7 lk_tX7
  | 8 => exact H RX8 TX8 4 rfl gin8 lk_tX8
  | 9 => exact H RX9 TX9 5 rfl gin9 lk_tX9
  | 10 => exact H RX10 TX10 7 rfl gin10 lk_tX10
  | 11 => exact H RX11 TX11 19 rfl gin11 lk_tX11
  | 12 => exact H RX12 TX12 65 rfl gin12 lk_tX12
  | 13 => exact H RJx4a65c TJx4a65c 3 rfl gin13 lk_tJx4a65c
  | ci + 14 => exact ⟨0, fun _ => 0, fun q hq => absurd hq (by simp)⟩
theorem arrK {s : State} {args : Array Value} {ty : FieldType} (h : (Cond.arrayClass ty).before args s = true) (ho : ∀ C, ty ≠ .object C) : ∃ cA : ClassId, ArrOfT s cA ty ∧ va_RA s cA ty := by
  obtain ⟨c, k, comp, h1, h2, h3⟩ := Cond.arrayClass_spec h
  refine ⟨c, fun n z => ⟨fun k h => (by cases h), k, h2, comp, h3⟩, ?_⟩
  cases ty with
  | object C => exact absurd rfl (ho C)
  | _ => exact h1
theorem arrO {s : State} {C : String} (h : va_AO C s) : ∃ cA : ClassId, ArrOfT s cA (.object C) ∧ va_RA s cA (.object C) := by
  obtain ⟨comp, c, k, h1, h2, h3, h4, h5⟩ := Cond.arrayOver_spec h
  exact ⟨c, fun n z => ⟨fun k h => (by cases h), k, h3, comp, h4⟩, k, comp, h3, h4, h1, h5⟩
theorem len0 {s : State} {args : Array Value} {a : Nat} {cell : Cell} {t : Term} (h : (Cond.eq (.length t) (.int 0)).before args s = true) (ht : t.eval args s none [] s = some (.ref a)) (hc : s.heap[a]? = some cell) : cell.slots.size.toInt32 = 0 ∧ cell.vm ≠ .unknown := by
  obtain ⟨y, l1, l2⟩ := Cond.eq_one h
  obtain ⟨a2, cell2, m1, m2, m3⟩ := Term.length_spec l1
  cases ht.symm.trans m1
  obtain ⟨n1, n2, -⟩ := State.arrayAt?_spec m2
  cases hc.symm.trans n1
  simp only [Term.eval, Option.some.injEq] at l2
  rw [m3] at l2
  injection l2 with l3
  exact ⟨l3.symm, n2⟩
theorem tys_ok {s : State} {cA : Nat → ClassId} (e0 : ArrOfT s (cA 0) .int ∧ va_RA s (cA 0) .int) (e1 : ArrOfT s (cA 1) .boolean ∧ va_RA s (cA 1) .boolean) (e2 : ArrOfT s (cA 2) .long ∧ va_RA s (cA 2) .long) (e3 : ArrOfT s (cA 3) (.object RX9) ∧ va_RA s (cA 3) (.object RX9)) (e4 : ArrOfT s (cA 4) (.object RX3) ∧ va_RA s (cA 4) (.object RX3)) (e5 : ArrOfT s (cA 5) (.object RX8) ∧ va_RA s (cA 5) (.object RX8)) (e6 : ArrOfT s (cA 6) (.object "java/lang/Object") ∧ va_RA s (cA 6) (.object "java/lang/Object")) : ∀ (k : Nat) (q : ClassId × FieldType), (gTys cA)[k]? = some q → ArrOfT s q.1 q.2 ∧ va_RA s q.1 q.2 := by
  intro k q hk
  match k, hk with
  | 0, hk => cases hk; exact e0
  | 1, hk => cases hk; exact e1
  | 2, hk => cases hk; exact e2
  | 3, hk => cases hk; exact e3
  | 4, hk => cases hk; exact e4
  | 5, hk => cases hk; exact e5
  | 6, hk => cases hk; exact e6
  | k + 7, hk => exact absurd hk (by simp [gTys])
theorem gNB_tbl : ∀ w ∈ gNB, w ∈ lw_tbl := by
  intro w hw
  simp only [gNB, List.mem_cons, List.not_mem_nil, or_false] at hw
  rcases hw with rfl | rfl | rfl | rfl | rfl | rfl | rfl | rfl | rfl | rfl | rfl | rfl | rfl | rfl | rfl | rfl | rfl | rfl | rfl | rfl | rfl | rfl | rfl | rfl | rfl
  · exact List.mem_append_right _ (List.mem_of_getElem? (i := 78) (by decide +kernel))
  · exact List.mem_append_right _ (List.mem_of_getElem? (i := 132) (by decide +kernel))
  · exact List.mem_append_right _ (List.mem_of_getElem? (i := 183) (by decide +kernel))
  · exact List.mem_append_right _ (List.mem_of_getElem? (i := 513) (by decide +kernel))
  · exact List.mem_append_right _ (List.mem_of_getElem? (i := 580) (by decide +kernel))
  · exact List.mem_append_right _ (List.mem_of_getElem? (i := 603) (by decide +kernel))
  · exact List.mem_append_right _ (List.mem_of_getElem? (i := 1037) (by decide +kernel))
  · exact List.mem_append_right _ (List.mem_of_getElem? (i := 2015) (by decide +kernel))
  · exact List.mem_append_right _ (List.mem_of_getElem? (i := 2016) (by decide +kernel))
  · exact List.mem_append_right _ (List.mem_of_getElem? (i := 2017) (by decide +kernel))
  · exact List.mem_append_right _ (List.mem_of_getElem? (i := 2026) (by decide +kernel))
  · exact List.mem_append_right _ (List.mem_of_getElem? (i := 2029) (by decide +kernel))
  · exact List.mem_append_right _ (List.mem_of_getElem? (i := 2030) (by decide +kernel))
  · exact List.mem_append_right _ (List.mem_of_getElem? (i := 2031) (by decide +kernel))
  · exact List.mem_append_right _ (List.mem_of_getElem? (i := 2032) (by decide +kernel))
  · exact List.mem_append_right _ (List.mem_of_getElem? (i := 2033) (by decide +kernel))
  · exact List.mem_append_right _ (List.mem_of_getElem? (i := 2041) (by decide +kernel))
  · exact List.mem_append_right _ (List.mem_of_getElem? (i := 2042) (by decide +kernel))
  · exact List.mem_append_right _ (List.mem_of_getElem? (i := 514) (by decide +kernel))
  · exact List.mem_append_right _ (List.mem_of_getElem? (i := 515) (by decide +kernel))
  · exact List.mem_append_right _ (List.mem_of_getElem? (i := 516) (by decide +kernel))
  · exact List.mem_append_right _ (List.mem_of_getElem? (i := 517) (by decide +kernel))
  · exact List.mem_append_right _ (List.mem_of_getElem? (i := 518) (by decide +kernel))
  · exact List.mem_append_right _ (List.mem_of_getElem? (i := 519) (by decide +kernel))
  · exact List.mem_append_right _ (List.mem_of_getElem? (i := 2037) (by decide +kernel))
theorem gAO_tbl : ∀ C ∈ gAO, Cond.arrayOver (.object C) ∈ lw_tbl := by
  intro C hC
  simp only [gAO, List.mem_cons, List.not_mem_nil, or_false] at hC
  rcases hC with rfl | rfl | rfl | rfl
  · exact List.mem_append_right _ (List.mem_of_getElem? (i := 45) (by decide +kernel))
  · exact List.mem_append_right _ (List.mem_of_getElem? (i := 47) (by decide +kernel))
  · exact List.mem_append_right _ (List.mem_of_getElem? (i := 49) (by decide +kernel))
  · exact List.mem_append_right _ (List.mem_of_getElem? (i := 403) (by decide +kernel))
theorem GC_i {s : State} {b : Nat} (hts : ∀ w ∈ lw_tbl, w.before #[Value.ref b] s = true) (hgv : (Jvm.Cond.and given_1 narrow_1).before #[Value.ref b] s = true) : ∃ G : GX, GC G s ∧ HP G (σi G.2.2.1 G.2.2.2.2) s.heap ∧ G.2.2.2.1 = s.heap.size := by
  have hs := flat_of_before _ hgv
  have hg : ∀ w ∈ gTB, w.before #[Value.ref b] s = true := fun w hw => hts w (List.mem_filter.mp hw).1
  have hAO : ∀ C ∈ gAO, va_AO C s := fun C hC => va_AO.of (hts _ (gAO_tbl C hC))
  obtain ⟨c0, e0⟩ := arrK (ty := .int) (hts _ (List.mem_append_right _ (List.mem_of_getElem? (i := 98) (by decide +kernel)))) (fun C q => by cases q)
  obtain ⟨c1, e1⟩ := arrK (ty := .boolean) (hts _ (List.mem_append_right _ (List.mem_of_getElem? (i := 1640) (by decide +kernel)))) (fun C q => by cases q)
  obtain ⟨c2, e2⟩ := arrK (ty := .long) (hts _ (List.mem_append_right _ (List.mem_of_getElem? (i := 2005) (by decide +kernel)))) (fun C q => by cases q)
  obtain ⟨c3, e3⟩ := arrO (hAO RX9 (List.mem_of_getElem? (i := 0) rfl))
  obtain ⟨c4, e4⟩ := arrO (hAO RX3 (List.mem_of_getElem? (i := 1) rfl))
  obtain ⟨c5, e5⟩ := arrO (hAO RX8 (List.mem_of_getElem? (i := 2) rfl))
  obtain ⟨c6, e6⟩ := arrO (hAO "java/lang/Object" (List.mem_of_getElem? (i := 3) rfl))
  have hcl := gin_all hg
  have hA : ∀ a : Nat, a < s.heap.size → ¬ s.heap.size ≤ a := fun a h => Nat.not_le.mpr h
  obtain ⟨d0, cd, cell, kd, f1, f2, f3, f4, f5, f6, -⟩ := Cond.exactly_spec (hs (.exactly (.static "java/util/ArrayList" "DEFAULTCAPACITY_EMPTY_ELEMENTDATA" "[Ljava/lang/Object;") "[Ljava/lang/Object;") (by decide +kernel))
  obtain ⟨g1, g2⟩ := len0 (hs (.eq (.length (.static "java/util/ArrayList" "DEFAULTCAPACITY_EMPTY_ELEMENTDATA" "[Ljava/lang/Object;")) (.int 0)) (by decide +kernel)) f1 f3
  obtain ⟨mm, hmm⟩ := va_Mi.of (hs (.isRef (.mirror "[Ljava/lang/Object;")) (by decide +kernel))
  have hd0 : d0 < s.heap.size := (Array.getElem?_eq_some_iff.mp f3).1
  let cA : Nat → ClassId := fun k => match k with | 0 => c0 | 1 => c1 | 2 => c2 | 3 => c3 | 4 => c4 | 5 => c5 | _ => c6
  let G : GX := ((fun ci => Classical.choose (hcl ci), fun ci => Classical.choose (Classical.choose_spec (hcl ci))), cA, d0, s.heap.size, mm)
  have hc6 : cell.cls = c6 := by
    rw [f6]
    have h9 := va_nmO e6.2 (nm := "[Ljava/lang/Object;") rfl
    exact Option.some.inj (f2.symm.trans h9)
  refine ⟨G, ⟨⟨fun c q hq => (Classical.choose_spec (Classical.choose_spec (hcl c))) q hq, fun k q hk => ?_⟩, fun w hw => va_Nw.of (gNB_tab w hw) (hts _ (gNB_tbl w hw)), ⟨hAO, fun q hq => ?_⟩, ?_, ?_, ?_, hmm, hd0, Nat.le_refl _⟩, ⟨fun a e he => ?_, WT_i⟩, rfl⟩
  · exact tys_ok (cA := cA) e0 e1 e2 e3 e4 e5 e6 k q hk
  · simp only [gNC, List.mem_cons, List.not_mem_nil, or_false] at hq
    rcases hq with rfl | rfl | rfl
    · exact va_Nc.of (hs (.not (.castable "java/lang/IllegalArgumentException" "java/lang/IndexOutOfBoundsException")) (by decide +kernel))
    · exact va_Nc.of (hs (.not (.castable "java/lang/IllegalStateException" "java/lang/IndexOutOfBoundsException")) (by decide +kernel))
    · exact va_Nc.of (hs (.not (.castable "java/lang/IllegalStateException" "java/lang/IllegalArgumentException")) (by decide +kernel))
  · exact vx_Zqof (hts _ (List.mem_append_right _ (List.mem_of_getElem? (i := 538) (by decide +kernel)))) (hts _ (List.mem_append_right _ (List.mem_of_getElem? (i := 12) (by decide +kernel)))) (hs (.isRef (.static "java/lang/Throwable" "UNASSIGNED_STACK" "[Ljava/lang/StackTraceElement;")) (by decide +kernel)) hA
  · exact vx_Zqof (hts _ (List.mem_append_right _ (List.mem_of_getElem? (i := 540) (by decide +kernel)))) (hts _ (List.mem_append_right _ (List.mem_of_getElem? (i := 12) (by decide +kernel)))) (hs (.isRef (.static "java/lang/Throwable" "SUPPRESSED_SENTINEL" "Ljava/util/List;")) (by decide +kernel)) hA
  · exact va_Zref (hts _ (List.mem_append_right _ (List.mem_of_getElem? (i := 63) (by decide +kernel)))) (hts _ (List.mem_append_right _ (List.mem_of_getElem? (i := 4) (by decide +kernel)))) f1 hA
  · have ha := cE_i he
    subst ha
    unfold gAt
    rw [if_pos rfl]
    exact ⟨cell, f3, hc6, g1, g2, f5⟩
theorem whole_red {p : Program} {e : Env} {s : State} {m : MethodId} {below : List Frame} {meth : Method} {c : Code} (l : Launch) (hflags : l.flags = flags0) {b L : Nat} {xs : Nat → Int32} (C0 : lw_At p s m meth c b L xs) (hw : ∀ d0 mm, w_L_law L xs 601024 7293034 (σi d0 mm)) : W p l e room_1 s m #[Value.ref b] below meth c s.heap [] 0 0 (lw_Z below #[Value.ref b] s) (entryFrame m ([Value.ref b] : List Value).toArray 7) := by
  obtain ⟨hx, hb, hr, hml, hown, hts, hX, hbl, hlocks, hgv⟩ := id C0
  have htr : l.stackTraces = false := by unfold Launch.stackTraces; rw [hflags]; decide
  obtain ⟨G, hG, hH, hsz⟩ := GC_i hts hgv
  have X : VC p l room_1 s m #[Value.ref b] meth c G 11 601024 7293034 7 RL code := ⟨hx, hb, hml, hown, fun w hw => hts w (List.mem_filter.mp hw).1, hG, hlocks, htr, Nat.le_of_ble_eq_true rfl, Nat.le_of_ble_eq_true rfl, rfl, rfl⟩
  have hl := lv_entry [Value.ref b] (n := 7) (Nat.le_of_ble_eq_true rfl)
  rw [lg_entry_eq]
  exact c_L_law X hr htr ⟨hX, hbl, fun q => by unfold GA at q; omega⟩ (fun q hq => by rw [← hsz]; exact hq) (σi G.2.2.1 G.2.2.2.2) 601024 7293034 (hw _ _) s.heap [] _ 0 0 (Nat.zero_add _) (Nat.zero_add _) ⟨hH, va_S.rf, ext.rf _, fr.rf _ _, fun q hq => absurd hq (List.not_mem_nil)⟩ hl
