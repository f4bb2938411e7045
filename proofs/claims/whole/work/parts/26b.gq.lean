set_option maxRecDepth 100000 in
set_option maxHeartbeats 1000000 in
theorem gq_X12_find_44 {a0 : Nat} {arr : Nat → Nat} {r : Int32} {w' : MS} {Q : Int32 → St → Prop} (hq : ∀ (s : St) (x : Int32), RF a0 arr s → gret x (absM a0 arr s) = some (r, w') → Q x s) : ∀ (x1 : Int32) (x2 : Int32) (x3 : Int32) (xs1 : Int32) (σ : St), RF a0 arr σ → g_X12_find_44 x1 x2 x3 xs1 (absM a0 arr σ) = some (r, w') → w_X12_find_44 Q  a0 x1 x2 x3 a0 xs1 σ := by
  intro x1 x2 x3 xs1 σ hR hp
  unfold g_X12_find_44 at hp
  unfold w_X12_find_44
  obtain ⟨x58, w59, he, hp⟩ := gb_some hp
  refine gq_X12_holds hR he (fun s59 hR hw => ?_)
  subst hw
  clear he
  replace hp := grd_some hp
  refine ⟨fun c => ?_, fun c => ?_⟩
  · replace hp := gif_f hp c
    intro o61 ho61
    rw [hR.ref 20 (by decide)] at ho61
    subst ho61
    intro x62 hx62
    obtain ⟨yx62, ex62, hp⟩ := gbo_some hp
    obtain rfl : yx62 = x62 := ex62.trans hx62.symm
    refine ⟨arr 20, rfl, ?_⟩
    obtain ⟨hv, hp⟩ := gix_some hp
    refine ⟨by rw [hR.len 20 (by first | decide | assumption)]; exact hv, ?_⟩
    obtain ⟨hv, hp⟩ := gix_some hp
    refine ⟨by rw [hR.len 20 (by first | decide | assumption)]; exact hv, ?_⟩
    intro s66 hs66
    have h2 := abs_setA hR 20 (by first | decide | assumption) hs66
    replace hR := hR.setA hs66
    replace hp := gst_up hp h2
    clear h2 hs66
    replace hp := grd_some hp
    intro o67 ho67
    rw [hR.ref 20 (by decide)] at ho67
    subst ho67
    refine ⟨arr 20, rfl, ?_⟩
    obtain ⟨hv, hp⟩ := gix_some hp
    refine ⟨by rw [hR.len 20 (by first | decide | assumption)]; exact hv, ?_⟩
    exact hq _ _ hR hp
  · replace hp := gif_t hp c
    exact hq _ _ hR hp
set_option maxRecDepth 100000 in
set_option maxHeartbeats 1000000 in
theorem gq_X12_find_20 {a0 : Nat} {arr : Nat → Nat} {r : Int32} {w' : MS} {Q : Int32 → St → Prop} (hq : ∀ (s : St) (x : Int32), RF a0 arr s → gret x (absM a0 arr s) = some (r, w') → Q x s) : ∀ (x1 : Int32) (x2 : Int32) (x3 : Int32) (xs0 : Int32) (σ : St), RF a0 arr σ → g_X12_find_20 x1 x2 x3 xs0 (absM a0 arr σ) = some (r, w') → w_X12_find_20 Q  a0 x1 x2 x3 xs0 σ := by
  intro x1 x2 x3 xs0 σ hR hp
  unfold g_X12_find_20 at hp
  unfold w_X12_find_20
  refine ⟨fun c => ?_, fun c => ?_⟩
  · replace hp := gif_f hp c
    obtain ⟨x55, w56, he, hp⟩ := gb_some hp
    refine gq_X12_arePieces hR he (fun s56 hR hw => ?_)
    subst hw
    clear he
    refine ⟨fun c => ?_, fun c => ?_⟩
    · replace hp := gif_t hp c
      exact gq_X12_find_44 hq _ _ _ _ _ hR hp
    · replace hp := gif_f hp c
      exact gq_X12_find_44 hq _ _ _ _ _ hR hp
  · replace hp := gif_t hp c
    exact gq_X12_find_44 hq _ _ _ _ _ hR hp
set_option maxRecDepth 100000 in
set_option maxHeartbeats 1000000 in
theorem gq_X12_find_19 {a0 : Nat} {arr : Nat → Nat} {r : Int32} {w' : MS} {Q : Int32 → St → Prop} (hq : ∀ (s : St) (x : Int32), RF a0 arr s → gret x (absM a0 arr s) = some (r, w') → Q x s) : ∀ (x1 : Int32) (x2 : Int32) (x3 : Int32) (σ : St), RF a0 arr σ → g_X12_find_19 x1 x2 x3 (absM a0 arr σ) = some (r, w') → w_X12_find_19 Q  a0 x1 x2 x3 σ := by
  intro x1 x2 x3 σ hR hp
  unfold g_X12_find_19 at hp
  unfold w_X12_find_19
  exact gq_X12_find_20 hq _ _ _ _ _ hR hp
set_option maxRecDepth 100000 in
set_option maxHeartbeats 1000000 in
theorem gq_X12_find {a0 : Nat} {arr : Nat → Nat} {σ : St} {x1 : Int32} {x2 : Int32} {x3 : Int32} (hR : RF a0 arr σ) {r : Int32} {w' : MS} (hp : g_X12_find x1 x2 x3 (absM a0 arr σ) = some (r, w')) {Q : Int32 → St → Prop} (hq : ∀ (s : St), RF a0 arr s → absM a0 arr s = w' → Q r s) : w_X12_find a0 x1 x2 x3 σ Q := by
  replace hq : ∀ (s : St) (x : Int32), RF a0 arr s → gret x (absM a0 arr s) = some (r, w') → Q x s := fun s x hR e => by obtain ⟨rfl, hw⟩ := gret_some e; exact hq s hR hw
  unfold g_X12_find at hp
  unfold w_X12_find
  obtain ⟨x51, w52, he, hp⟩ := gb_some hp
  refine gq_X12_isSlot hR he (fun s52 hR hw => ?_)
  subst hw
  clear he
  refine ⟨fun c => ?_, fun c => ?_⟩
  · replace hp := gif_t hp c
    exact gq_X12_find_19 hq _ _ _ _ hR hp
  · replace hp := gif_f hp c
    obtain ⟨x70, w71, he, hp⟩ := gb_some hp
    refine gq_X12_isLot hR he (fun s71 hR hw => ?_)
    subst hw
    clear he
    refine ⟨fun c => ?_, fun c => ?_⟩
    · replace hp := gif_t hp c
      exact gq_X12_find_19 hq _ _ _ _ hR hp
    · replace hp := gif_f hp c
      exact gq_X12_find_20 hq _ _ _ _ _ hR hp
set_option maxRecDepth 100000 in
set_option maxHeartbeats 1000000 in
theorem gq_X12_freeAt {a0 : Nat} {arr : Nat → Nat} {σ : St} {x1 : Int32} {x2 : Int32} (hR : RF a0 arr σ) {r : Int32} {w' : MS} (hp : g_X12_freeAt x1 x2 (absM a0 arr σ) = some (r, w')) {Q : Int32 → St → Prop} (hq : ∀ (s : St), RF a0 arr s → absM a0 arr s = w' → Q r s) : w_X12_freeAt a0 x1 x2 σ Q := by
  replace hq : ∀ (s : St) (x : Int32), RF a0 arr s → gret x (absM a0 arr s) = some (r, w') → Q x s := fun s x hR e => by obtain ⟨rfl, hw⟩ := gret_some e; exact hq s hR hw
  unfold g_X12_freeAt at hp
  unfold w_X12_freeAt
  replace hp := grd_some hp
  intro o51 ho51
  rw [hR.ref 19 (by decide)] at ho51
  subst ho51
  refine ⟨arr 19, rfl, ?_⟩
  obtain ⟨hv, hp⟩ := gix_some hp
  refine ⟨by rw [hR.len 19 (by first | decide | assumption)]; exact hv, ?_⟩
  obtain ⟨x54, w55, he, hp⟩ := gb_some hp
  refine gq_X12_heldAt hR he (fun s55 hR hw => ?_)
  subst hw
  clear he
  exact hq _ _ hR hp
set_option maxRecDepth 100000 in
set_option maxHeartbeats 1000000 in
theorem gq_X12_give_44 {a0 : Nat} {arr : Nat → Nat} {r : Int32} {w' : MS} {Q : Int32 → St → Prop} (hq : ∀ (s : St) (x : Int32), RF a0 arr s → gret x (absM a0 arr s) = some (r, w') → Q x s) : ∀ (x1 : Int32) (x2 : Int32) (xs1 : Int32) (σ : St), RF a0 arr σ → g_X12_give_44 x1 x2 xs1 (absM a0 arr σ) = some (r, w') → w_X12_give_44 Q  a0 x1 x2 a0 xs1 σ := by
  intro x1 x2 xs1 σ hR hp
  unfold g_X12_give_44 at hp
  unfold w_X12_give_44
  obtain ⟨x59, w60, he, hp⟩ := gb_some hp
  refine gq_X12_holds hR he (fun s60 hR hw => ?_)
  subst hw
  clear he
  refine ⟨fun c => ?_, fun c => ?_⟩
  · replace hp := gif_f hp c
    obtain ⟨u63, w63, he, hp⟩ := gb_some hp
    refine gq_X12_gives hR he (fun s63 hR hw => ?_)
    subst hw
    clear he
    replace hp := grd_some hp
    intro o64 ho64
    rw [hR.ref 59 (by decide)] at ho64
    subst ho64
    refine ⟨arr 59, rfl, ?_⟩
    obtain ⟨hv, hp⟩ := gix_some hp
    refine ⟨by rw [hR.len 59 (by first | decide | assumption)]; exact hv, ?_⟩
    exact hq _ _ hR hp
  · replace hp := gif_t hp c
    exact hq _ _ hR hp
set_option maxRecDepth 100000 in
set_option maxHeartbeats 1000000 in
theorem gq_X12_give_20 {a0 : Nat} {arr : Nat → Nat} {r : Int32} {w' : MS} {Q : Int32 → St → Prop} (hq : ∀ (s : St) (x : Int32), RF a0 arr s → gret x (absM a0 arr s) = some (r, w') → Q x s) : ∀ (x1 : Int32) (x2 : Int32) (xs0 : Int32) (σ : St), RF a0 arr σ → g_X12_give_20 x1 x2 xs0 (absM a0 arr σ) = some (r, w') → w_X12_give_20 Q  a0 x1 x2 xs0 σ := by
  intro x1 x2 xs0 σ hR hp
  unfold g_X12_give_20 at hp
  unfold w_X12_give_20
  replace hp := grd_some hp
  refine ⟨fun c => ?_, fun c => ?_⟩
  · replace hp := gif_f hp c
    intro o55 ho55
    rw [hR.ref 52 (by decide)] at ho55
    subst ho55
    refine ⟨arr 52, rfl, ?_⟩
    obtain ⟨hv, hp⟩ := gix_some hp
    refine ⟨by rw [hR.len 52 (by first | decide | assumption)]; exact hv, ?_⟩
    refine ⟨fun c => ?_, fun c => ?_⟩
    · replace hp := gif_f hp c
      exact gq_X12_give_44 hq _ _ _ _ hR hp
    · replace hp := gif_t hp c
      exact gq_X12_give_44 hq _ _ _ _ hR hp
  · replace hp := gif_t hp c
    exact gq_X12_give_44 hq _ _ _ _ hR hp
set_option maxRecDepth 100000 in
set_option maxHeartbeats 1000000 in
theorem gq_X12_give_19 {a0 : Nat} {arr : Nat → Nat} {r : Int32} {w' : MS} {Q : Int32 → St → Prop} (hq : ∀ (s : St) (x : Int32), RF a0 arr s → gret x (absM a0 arr s) = some (r, w') → Q x s) : ∀ (x1 : Int32) (x2 : Int32) (σ : St), RF a0 arr σ → g_X12_give_19 x1 x2 (absM a0 arr σ) = some (r, w') → w_X12_give_19 Q  a0 x1 x2 σ := by
  intro x1 x2 σ hR hp
  unfold g_X12_give_19 at hp
  unfold w_X12_give_19
  exact gq_X12_give_20 hq _ _ _ _ hR hp
set_option maxRecDepth 100000 in
set_option maxHeartbeats 1000000 in
theorem gq_X12_give {a0 : Nat} {arr : Nat → Nat} {σ : St} {x1 : Int32} {x2 : Int32} (hR : RF a0 arr σ) {r : Int32} {w' : MS} (hp : g_X12_give x1 x2 (absM a0 arr σ) = some (r, w')) {Q : Int32 → St → Prop} (hq : ∀ (s : St), RF a0 arr s → absM a0 arr s = w' → Q r s) : w_X12_give a0 x1 x2 σ Q := by
  replace hq : ∀ (s : St) (x : Int32), RF a0 arr s → gret x (absM a0 arr s) = some (r, w') → Q x s := fun s x hR e => by obtain ⟨rfl, hw⟩ := gret_some e; exact hq s hR hw
  unfold g_X12_give at hp
  unfold w_X12_give
  obtain ⟨x51, w52, he, hp⟩ := gb_some hp
  refine gq_X12_isRobot hR he (fun s52 hR hw => ?_)
  subst hw
  clear he
  refine ⟨fun c => ?_, fun c => ?_⟩
  · replace hp := gif_t hp c
    exact gq_X12_give_19 hq _ _ _ hR hp
  · replace hp := gif_f hp c
    obtain ⟨x67, w68, he, hp⟩ := gb_some hp
    refine gq_X12_isTask hR he (fun s68 hR hw => ?_)
    subst hw
    clear he
    refine ⟨fun c => ?_, fun c => ?_⟩
    · replace hp := gif_t hp c
      exact gq_X12_give_19 hq _ _ _ hR hp
    · replace hp := gif_f hp c
      exact gq_X12_give_20 hq _ _ _ _ hR hp
set_option maxRecDepth 100000 in
set_option maxHeartbeats 1000000 in
theorem gq_X12_held_43 {a0 : Nat} {arr : Nat → Nat} {r : Int32} {w' : MS} {Q : Int32 → St → Prop} (hq : ∀ (s : St) (x : Int32), RF a0 arr s → gret x (absM a0 arr s) = some (r, w') → Q x s) : ∀ (f : Nat) (x1 : Int32) (x2 : Int32) (x3 : Int32) (x4 : Int32) (x5 : Int32) (σ : St), RF a0 arr σ → g_X12_held_43 f x1 x2 x3 x4 x5 (absM a0 arr σ) = some (r, w') → w_X12_held_43 Q  f a0 x1 x2 x3 x4 x5 σ := by
  intro f
  induction f with
  | zero => intro x1 x2 x3 x4 x5 σ hR hp; cases hp
  | succ f ih =>
    intro x1 x2 x3 x4 x5 σ hR hp
    unfold g_X12_held_43 at hp
    unfold w_X12_held_43
    replace hp := grd_some hp
    refine ⟨fun c => ?_, fun c => ?_⟩
    · replace hp := gif_t hp c
      exact hq _ _ hR hp
    · replace hp := gif_f hp c
      intro o58 ho58
      rw [hR.ref 40 (by decide)] at ho58
      subst ho58
      refine ⟨arr 40, rfl, ?_⟩
      obtain ⟨hv, hp⟩ := gix_some hp
      refine ⟨by rw [hR.len 40 (by first | decide | assumption)]; exact hv, ?_⟩
      refine ⟨fun c => ?_, fun c => ?_⟩
      · replace hp := gif_f hp c
        intro x62 hx62
        obtain ⟨yx62, ex62, hp⟩ := gbo_some hp
        obtain rfl : yx62 = x62 := ex62.trans hx62.symm
        exact ih _ _ _ _ _ _ hR hp
      · replace hp := gif_t hp c
        intro o63 ho63
        rw [hR.ref 41 (by decide)] at ho63
        subst ho63
        refine ⟨arr 41, rfl, ?_⟩
        obtain ⟨hv, hp⟩ := gix_some hp
        refine ⟨by rw [hR.len 41 (by first | decide | assumption)]; exact hv, ?_⟩
        refine ⟨fun c => ?_, fun c => ?_⟩
        · replace hp := gif_f hp c
          intro x67 hx67
          obtain ⟨yx67, ex67, hp⟩ := gbo_some hp
          obtain rfl : yx67 = x67 := ex67.trans hx67.symm
          exact ih _ _ _ _ _ _ hR hp
        · replace hp := gif_t hp c
          intro o68 ho68
          rw [hR.ref 42 (by decide)] at ho68
          subst ho68
          refine ⟨arr 42, rfl, ?_⟩
          obtain ⟨hv, hp⟩ := gix_some hp
          refine ⟨by rw [hR.len 42 (by first | decide | assumption)]; exact hv, ?_⟩
          refine ⟨fun c => ?_, fun c => ?_⟩
          · replace hp := gif_f hp c
            intro x72 hx72
            obtain ⟨yx72, ex72, hp⟩ := gbo_some hp
            obtain rfl : yx72 = x72 := ex72.trans hx72.symm
            exact ih _ _ _ _ _ _ hR hp
          · replace hp := gif_t hp c
            intro o73 ho73
            rw [hR.ref 43 (by decide)] at ho73
            subst ho73
            refine ⟨arr 43, rfl, ?_⟩
            obtain ⟨hv, hp⟩ := gix_some hp
            refine ⟨by rw [hR.len 43 (by first | decide | assumption)]; exact hv, ?_⟩
            intro x76 hx76
            obtain ⟨yx76, ex76, hp⟩ := gbo_some hp
            obtain rfl : yx76 = x76 := ex76.trans hx76.symm
            exact ih _ _ _ _ _ _ hR hp
set_option maxRecDepth 100000 in
set_option maxHeartbeats 1000000 in
theorem gq_X12_held_29 {a0 : Nat} {arr : Nat → Nat} {r : Int32} {w' : MS} {Q : Int32 → St → Prop} (hq : ∀ (s : St) (x : Int32), RF a0 arr s → gret x (absM a0 arr s) = some (r, w') → Q x s) : ∀ (x1 : Int32) (x2 : Int32) (x3 : Int32) (xs1 : Int32) (σ : St), RF a0 arr σ → g_X12_held_29 x1 x2 x3 xs1 (absM a0 arr σ) = some (r, w') → w_X12_held_29 Q  a0 x1 x2 x3 a0 xs1 σ := by
  intro x1 x2 x3 xs1 σ hR hp
  unfold g_X12_held_29 at hp
  unfold w_X12_held_29
  obtain ⟨x54, w55, he, hp⟩ := gb_some hp
  refine gq_X12_holds hR he (fun s55 hR hw => ?_)
  subst hw
  clear he
  refine ⟨fun c => ?_, fun c => ?_⟩
  · replace hp := gif_f hp c
    refine ⟨FU, ?_⟩
    exact gq_X12_held_43 hq FU _ _ _ _ _ _ hR hp
  · replace hp := gif_t hp c
    exact hq _ _ hR hp
set_option maxRecDepth 100000 in
set_option maxHeartbeats 1000000 in
theorem gq_X12_held_28 {a0 : Nat} {arr : Nat → Nat} {r : Int32} {w' : MS} {Q : Int32 → St → Prop} (hq : ∀ (s : St) (x : Int32), RF a0 arr s → gret x (absM a0 arr s) = some (r, w') → Q x s) : ∀ (x1 : Int32) (x2 : Int32) (x3 : Int32) (σ : St), RF a0 arr σ → g_X12_held_28 x1 x2 x3 (absM a0 arr σ) = some (r, w') → w_X12_held_28 Q  a0 x1 x2 x3 a0 σ := by
  intro x1 x2 x3 σ hR hp
  unfold g_X12_held_28 at hp
  unfold w_X12_held_28
  exact gq_X12_held_29 hq _ _ _ _ _ hR hp
set_option maxRecDepth 100000 in
set_option maxHeartbeats 1000000 in
theorem gq_X12_held {a0 : Nat} {arr : Nat → Nat} {σ : St} {x1 : Int32} {x2 : Int32} {x3 : Int32} (hR : RF a0 arr σ) {r : Int32} {w' : MS} (hp : g_X12_held x1 x2 x3 (absM a0 arr σ) = some (r, w')) {Q : Int32 → St → Prop} (hq : ∀ (s : St), RF a0 arr s → absM a0 arr s = w' → Q r s) : w_X12_held a0 x1 x2 x3 σ Q := by
  replace hq : ∀ (s : St) (x : Int32), RF a0 arr s → gret x (absM a0 arr s) = some (r, w') → Q x s := fun s x hR e => by obtain ⟨rfl, hw⟩ := gret_some e; exact hq s hR hw
  unfold g_X12_held at hp
  unfold w_X12_held
  obtain ⟨x51, w52, he, hp⟩ := gb_some hp
  refine gq_X12_isOrder hR he (fun s52 hR hw => ?_)
  subst hw
  clear he
  refine ⟨fun c => ?_, fun c => ?_⟩
  · replace hp := gif_t hp c
    exact gq_X12_held_28 hq _ _ _ _ hR hp
  · replace hp := gif_f hp c
    obtain ⟨x78, w79, he, hp⟩ := gb_some hp
    refine gq_X12_isSlot hR he (fun s79 hR hw => ?_)
    subst hw
    clear he
    refine ⟨fun c => ?_, fun c => ?_⟩
    · replace hp := gif_t hp c
      exact gq_X12_held_28 hq _ _ _ _ hR hp
    · replace hp := gif_f hp c
      obtain ⟨x81, w82, he, hp⟩ := gb_some hp
      refine gq_X12_isLot hR he (fun s82 hR hw => ?_)
      subst hw
      clear he
      refine ⟨fun c => ?_, fun c => ?_⟩
      · replace hp := gif_t hp c
        exact gq_X12_held_28 hq _ _ _ _ hR hp
      · replace hp := gif_f hp c
        exact gq_X12_held_29 hq _ _ _ _ _ hR hp
set_option maxRecDepth 100000 in
set_option maxHeartbeats 1000000 in
theorem gq_X12_isAsked_23 {a0 : Nat} {arr : Nat → Nat} {r : Int32} {w' : MS} {Q : Int32 → St → Prop} (hq : ∀ (s : St) (x : Int32), RF a0 arr s → gret x (absM a0 arr s) = some (r, w') → Q x s) : ∀ (xs1 : Int32) (σ : St), RF a0 arr σ → g_X12_isAsked_23 xs1 (absM a0 arr σ) = some (r, w') → w_X12_isAsked_23 Q  a0 xs1 σ := by
  intro xs1 σ hR hp
  unfold g_X12_isAsked_23 at hp
  unfold w_X12_isAsked_23
  obtain ⟨x54, w55, he, hp⟩ := gb_some hp
  refine gq_X12_holds hR he (fun s55 hR hw => ?_)
  subst hw
  clear he
  obtain ⟨hv, hp⟩ := gmd_some hp
  refine ⟨of_decide_eq_true hv, ?_⟩
  exact hq _ _ hR hp
set_option maxRecDepth 100000 in
set_option maxHeartbeats 1000000 in
theorem gq_X12_isAsked_22 {a0 : Nat} {arr : Nat → Nat} {r : Int32} {w' : MS} {Q : Int32 → St → Prop} (hq : ∀ (s : St) (x : Int32), RF a0 arr s → gret x (absM a0 arr s) = some (r, w') → Q x s) : ∀  (σ : St), RF a0 arr σ → g_X12_isAsked_22 (absM a0 arr σ) = some (r, w') → w_X12_isAsked_22 Q  a0 σ := by
  intro σ hR hp
  unfold g_X12_isAsked_22 at hp
  unfold w_X12_isAsked_22
  exact gq_X12_isAsked_23 hq _ _ hR hp
set_option maxRecDepth 100000 in
set_option maxHeartbeats 1000000 in
theorem gq_X12_isAsked {a0 : Nat} {arr : Nat → Nat} {σ : St} {x1 : Int32} {x2 : Int32} {x3 : Int32} (hR : RF a0 arr σ) {r : Int32} {w' : MS} (hp : g_X12_isAsked x1 x2 x3 (absM a0 arr σ) = some (r, w')) {Q : Int32 → St → Prop} (hq : ∀ (s : St), RF a0 arr s → absM a0 arr s = w' → Q r s) : w_X12_isAsked a0 x1 x2 x3 σ Q := by
  replace hq : ∀ (s : St) (x : Int32), RF a0 arr s → gret x (absM a0 arr s) = some (r, w') → Q x s := fun s x hR e => by obtain ⟨rfl, hw⟩ := gret_some e; exact hq s hR hw
  unfold g_X12_isAsked at hp
  unfold w_X12_isAsked
  obtain ⟨x51, w52, he, hp⟩ := gb_some hp
  refine gq_X12_isIn hR he (fun s52 hR hw => ?_)
  subst hw
  clear he
  refine ⟨fun c => ?_, fun c => ?_⟩
  · replace hp := gif_t hp c
    exact gq_X12_isAsked_22 hq _ hR hp
  · replace hp := gif_f hp c
    obtain ⟨x56, w57, he, hp⟩ := gb_some hp
    refine gq_X12_isLot hR he (fun s57 hR hw => ?_)
    subst hw
    clear he
    refine ⟨fun c => ?_, fun c => ?_⟩
    · replace hp := gif_t hp c
      exact gq_X12_isAsked_22 hq _ hR hp
    · replace hp := gif_f hp c
      exact gq_X12_isAsked_23 hq _ _ hR hp
set_option maxRecDepth 100000 in
set_option maxHeartbeats 1000000 in
theorem gq_X12_isBarredIn_5 {a0 : Nat} {arr : Nat → Nat} {r : Int32} {w' : MS} {Q : Int32 → St → Prop} (hq : ∀ (s : St) (x : Int32), RF a0 arr s → gret x (absM a0 arr s) = some (r, w') → Q x s) : ∀ (f : Nat) (x1 : Int32) (x2 : Int32) (x3 : Int32) (x4 : Int32) (σ : St), RF a0 arr σ → g_X12_isBarredIn_5 f x1 x2 x3 x4 (absM a0 arr σ) = some (r, w') → w_X12_isBarredIn_5 Q  f a0 x1 x2 x3 x4 σ := by
  intro f
  induction f with
  | zero => intro x1 x2 x3 x4 σ hR hp; cases hp
  | succ f ih =>
    intro x1 x2 x3 x4 σ hR hp
    unfold g_X12_isBarredIn_5 at hp
    unfold w_X12_isBarredIn_5
    replace hp := grd_some hp
    refine ⟨fun c => ?_, fun c => ?_⟩
    · replace hp := gif_t hp c
      obtain ⟨hv, hp⟩ := gmd_some hp
      refine ⟨of_decide_eq_true hv, ?_⟩
      exact hq _ _ hR hp
    · replace hp := gif_f hp c
      refine ⟨fun c => ?_, fun c => ?_⟩
      · replace hp := gif_f hp c
        exact ih _ _ _ _ _ hR hp
      · replace hp := gif_t hp c
        refine ⟨fun c => ?_, fun c => ?_⟩
        · replace hp := gif_t hp c
          exact ih _ _ _ _ _ hR hp
        · replace hp := gif_f hp c
          intro o54 ho54
          rw [hR.ref 14 (by decide)] at ho54
          subst ho54
          intro o55 ho55
          rw [hR.ref 12 (by decide)] at ho55
          subst ho55
          refine ⟨arr 12, rfl, ?_⟩
          obtain ⟨hv, hp⟩ := gix_some hp
          refine ⟨by rw [hR.len 12 (by first | decide | assumption)]; exact hv, ?_⟩
          intro o58 ho58
          rw [hR.ref 12 (by decide)] at ho58
          subst ho58
          refine ⟨arr 12, rfl, ?_⟩
          obtain ⟨hv, hp⟩ := gix_some hp
          refine ⟨by rw [hR.len 12 (by first | decide | assumption)]; exact hv, ?_⟩
          refine ⟨arr 14, rfl, ?_⟩
          obtain ⟨hv, hp⟩ := gix_some hp
          refine ⟨by rw [hR.len 14 (by first | decide | assumption)]; exact hv, ?_⟩
          refine ⟨fun c => ?_, fun c => ?_⟩
          · replace hp := gif_t hp c
            exact ih _ _ _ _ _ hR hp
          · replace hp := gif_f hp c
            obtain ⟨x64, w65, he, hp⟩ := gb_some hp
            refine gq_X12_standsIn hR he (fun s65 hR hw => ?_)
            subst hw
            clear he
            refine ⟨fun c => ?_, fun c => ?_⟩
            · replace hp := gif_t hp c
              exact ih _ _ _ _ _ hR hp
            · replace hp := gif_f hp c
              exact ih _ _ _ _ _ hR hp
set_option maxRecDepth 100000 in
set_option maxHeartbeats 1000000 in
theorem gq_X12_isBarredIn {a0 : Nat} {arr : Nat → Nat} {σ : St} {x1 : Int32} {x2 : Int32} (hR : RF a0 arr σ) {r : Int32} {w' : MS} (hp : g_X12_isBarredIn x1 x2 (absM a0 arr σ) = some (r, w')) {Q : Int32 → St → Prop} (hq : ∀ (s : St), RF a0 arr s → absM a0 arr s = w' → Q r s) : w_X12_isBarredIn a0 x1 x2 σ Q := by
  replace hq : ∀ (s : St) (x : Int32), RF a0 arr s → gret x (absM a0 arr s) = some (r, w') → Q x s := fun s x hR e => by obtain ⟨rfl, hw⟩ := gret_some e; exact hq s hR hw
  unfold g_X12_isBarredIn at hp
  unfold w_X12_isBarredIn
  refine ⟨FU, ?_⟩
  exact gq_X12_isBarredIn_5 hq FU _ _ _ _ _ hR hp
set_option maxRecDepth 100000 in
set_option maxHeartbeats 1000000 in
theorem gq_X12_isEmpty_16 {a0 : Nat} {arr : Nat → Nat} {r : Int32} {w' : MS} {Q : Int32 → St → Prop} (hq : ∀ (s : St) (x : Int32), RF a0 arr s → gret x (absM a0 arr s) = some (r, w') → Q x s) : ∀ (f : Nat) (x1 : Int32) (x2 : Int32) (x3 : Int32) (σ : St), RF a0 arr σ → g_X12_isEmpty_16 f x1 x2 x3 (absM a0 arr σ) = some (r, w') → w_X12_isEmpty_16 Q  f a0 x1 x2 x3 σ := by
  intro f
  induction f with
  | zero => intro x1 x2 x3 σ hR hp; cases hp
  | succ f ih =>
    intro x1 x2 x3 σ hR hp
    unfold g_X12_isEmpty_16 at hp
    unfold w_X12_isEmpty_16
    refine ⟨fun c => ?_, fun c => ?_⟩
    · replace hp := gif_t hp c
      obtain ⟨hv, hp⟩ := gmd_some hp
      refine ⟨of_decide_eq_true hv, ?_⟩
      exact hq _ _ hR hp
    · replace hp := gif_f hp c
      refine ⟨fun c => ?_, fun c => ?_⟩
      · replace hp := gif_t hp c
        exact ih _ _ _ _ hR hp
      · replace hp := gif_f hp c
        obtain ⟨x56, w57, he, hp⟩ := gb_some hp
        refine gq_X12_itemIn hR he (fun s57 hR hw => ?_)
        subst hw
        clear he
        refine ⟨fun c => ?_, fun c => ?_⟩
        · replace hp := gif_f hp c
          exact ih _ _ _ _ hR hp
        · replace hp := gif_t hp c
          exact ih _ _ _ _ hR hp
set_option maxRecDepth 100000 in
set_option maxHeartbeats 1000000 in
theorem gq_X12_isEmpty {a0 : Nat} {arr : Nat → Nat} {σ : St} {x1 : Int32} (hR : RF a0 arr σ) {r : Int32} {w' : MS} (hp : g_X12_isEmpty x1 (absM a0 arr σ) = some (r, w')) {Q : Int32 → St → Prop} (hq : ∀ (s : St), RF a0 arr s → absM a0 arr s = w' → Q r s) : w_X12_isEmpty a0 x1 σ Q := by
  replace hq : ∀ (s : St) (x : Int32), RF a0 arr s → gret x (absM a0 arr s) = some (r, w') → Q x s := fun s x hR e => by obtain ⟨rfl, hw⟩ := gret_some e; exact hq s hR hw
  unfold g_X12_isEmpty at hp
  unfold w_X12_isEmpty
  obtain ⟨x51, w52, he, hp⟩ := gb_some hp
  refine gq_X12_roomHeld hR he (fun s52 hR hw => ?_)
  subst hw
  clear he
  refine ⟨fun c => ?_, fun c => ?_⟩
  · replace hp := gif_f hp c
    refine ⟨FU, ?_⟩
    exact gq_X12_isEmpty_16 hq FU _ _ _ _ hR hp
  · replace hp := gif_t hp c
    refine ⟨FU, ?_⟩
    exact gq_X12_isEmpty_16 hq FU _ _ _ _ hR hp
set_option maxRecDepth 100000 in
set_option maxHeartbeats 1000000 in
theorem gq_X12_item_161 {a0 : Nat} {arr : Nat → Nat} {r : Unit} {w' : MS} {Q : St → Prop} (hq : ∀ (s : St), RF a0 arr s → gret () (absM a0 arr s) = some (r, w') → Q s) : ∀ (x1 : Int32) (x2 : Int32) (x3 : Int32) (x4 : Int32) (x5 : Int32) (x6 : Int32) (xs1 : Int32) (σ : St), RF a0 arr σ → g_X12_item_161 x1 x2 x3 x4 x5 x6 xs1 (absM a0 arr σ) = some (r, w') → w_X12_item_161 Q  a0 x1 x2 x3 x4 x5 x6 a0 xs1 σ := by
  intro x1 x2 x3 x4 x5 x6 xs1 σ hR hp
  unfold g_X12_item_161 at hp
  unfold w_X12_item_161
  obtain ⟨x61, w62, he, hp⟩ := gb_some hp
  refine gq_X12_holds hR he (fun s62 hR hw => ?_)
  subst hw
  clear he
  refine ⟨fun c => ?_, fun c => ?_⟩
  · replace hp := gif_t hp c
    exact hq _ hR hp
  · replace hp := gif_f hp c
    intro o64 ho64
    rw [hR.ref 9 (by decide)] at ho64
    subst ho64
    refine ⟨arr 9, rfl, ?_⟩
    obtain ⟨hv, hp⟩ := gix_some hp
    refine ⟨by rw [hR.len 9 (by first | decide | assumption)]; exact hv, ?_⟩
    intro s67 hs67
    have h2 := abs_setA hR 9 (by first | decide | assumption) hs67
    replace hR := hR.setA hs67
    replace hp := gst_up hp h2
    clear h2 hs67
    intro o68 ho68
    rw [hR.ref 10 (by decide)] at ho68
    subst ho68
    refine ⟨arr 10, rfl, ?_⟩
    obtain ⟨hv, hp⟩ := gix_some hp
    refine ⟨by rw [hR.len 10 (by first | decide | assumption)]; exact hv, ?_⟩
    intro s71 hs71
    have h2 := abs_setA hR 10 (by first | decide | assumption) hs71
    replace hR := hR.setA hs71
    replace hp := gst_up hp h2
    clear h2 hs71
    intro o72 ho72
    rw [hR.ref 11 (by decide)] at ho72
    subst ho72
    refine ⟨arr 11, rfl, ?_⟩
    obtain ⟨hv, hp⟩ := gix_some hp
    refine ⟨by rw [hR.len 11 (by first | decide | assumption)]; exact hv, ?_⟩
    intro s75 hs75
    have h2 := abs_setA hR 11 (by first | decide | assumption) hs75
    replace hR := hR.setA hs75
    replace hp := gst_up hp h2
    clear h2 hs75
    intro o76 ho76
    rw [hR.ref 12 (by decide)] at ho76
    subst ho76
    refine ⟨arr 12, rfl, ?_⟩
    obtain ⟨hv, hp⟩ := gix_some hp
    refine ⟨by rw [hR.len 12 (by first | decide | assumption)]; exact hv, ?_⟩
    intro s79 hs79
    have h2 := abs_setA hR 12 (by first | decide | assumption) hs79
    replace hR := hR.setA hs79
    replace hp := gst_up hp h2
    clear h2 hs79
    intro o80 ho80
    rw [hR.ref 13 (by decide)] at ho80
    subst ho80
    refine ⟨arr 13, rfl, ?_⟩
    obtain ⟨hv, hp⟩ := gix_some hp
    refine ⟨by rw [hR.len 13 (by first | decide | assumption)]; exact hv, ?_⟩
    intro s83 hs83
    have h2 := abs_setA hR 13 (by first | decide | assumption) hs83
    replace hR := hR.setA hs83
    replace hp := gst_up hp h2
    clear h2 hs83
    exact hq _ hR hp
set_option maxRecDepth 100000 in
set_option maxHeartbeats 1000000 in
theorem gq_X12_item_76 {a0 : Nat} {arr : Nat → Nat} {r : Unit} {w' : MS} {Q : St → Prop} (hq : ∀ (s : St), RF a0 arr s → gret () (absM a0 arr s) = some (r, w') → Q s) : ∀ (f : Nat) (x1 : Int32) (x2 : Int32) (x3 : Int32) (x4 : Int32) (x5 : Int32) (x6 : Int32) (x7 : Int32) (x8 : Int32) (x9 : Int32) (x10 : Int32) (σ : St), RF a0 arr σ → g_X12_item_76 f x1 x2 x3 x4 x5 x6 x7 x8 x9 x10 (absM a0 arr σ) = some (r, w') → w_X12_item_76 Q  f a0 x1 x2 x3 x4 x5 x6 x7 x8 x9 x10 σ := by
  intro f
  induction f with
  | zero => intro x1 x2 x3 x4 x5 x6 x7 x8 x9 x10 σ hR hp; cases hp
  | succ f ih =>
    intro x1 x2 x3 x4 x5 x6 x7 x8 x9 x10 σ hR hp
    unfold g_X12_item_76 at hp
    unfold w_X12_item_76
    replace hp := grd_some hp
    refine ⟨fun c => ?_, fun c => ?_⟩
    · replace hp := gif_t hp c
      refine ⟨fun c => ?_, fun c => ?_⟩
      · replace hp := gif_f hp c
        refine ⟨fun c => ?_, fun c => ?_⟩
        · replace hp := gif_f hp c
          refine ⟨fun c => ?_, fun c => ?_⟩
          · replace hp := gif_t hp c
            exact gq_X12_item_161 hq _ _ _ _ _ _ _ _ hR hp
          · replace hp := gif_f hp c
            exact gq_X12_item_161 hq _ _ _ _ _ _ _ _ hR hp
        · replace hp := gif_t hp c
          exact gq_X12_item_161 hq _ _ _ _ _ _ _ _ hR hp
      · replace hp := gif_t hp c
        exact gq_X12_item_161 hq _ _ _ _ _ _ _ _ hR hp
    · replace hp := gif_f hp c
      refine ⟨fun c => ?_, fun c => ?_⟩
      · replace hp := gif_f hp c
        exact ih _ _ _ _ _ _ _ _ _ _ _ hR hp
      · replace hp := gif_t hp c
        intro o85 ho85
        rw [hR.ref 6 (by decide)] at ho85
        subst ho85
        refine ⟨arr 6, rfl, ?_⟩
        obtain ⟨hv, hp⟩ := gix_some hp
        refine ⟨by rw [hR.len 6 (by first | decide | assumption)]; exact hv, ?_⟩
        refine ⟨fun c => ?_, fun c => ?_⟩
        · replace hp := gif_t hp c
          exact ih _ _ _ _ _ _ _ _ _ _ _ hR hp
        · replace hp := gif_f hp c
          refine ⟨fun c => ?_, fun c => ?_⟩
          · replace hp := gif_t hp c
            exact ih _ _ _ _ _ _ _ _ _ _ _ hR hp
          · replace hp := gif_f hp c
            intro o90 ho90
            rw [hR.ref 16 (by decide)] at ho90
            subst ho90
            refine ⟨arr 16, rfl, ?_⟩
            obtain ⟨hv, hp⟩ := gix_some hp
            refine ⟨by rw [hR.len 16 (by first | decide | assumption)]; exact hv, ?_⟩
            refine ⟨fun c => ?_, fun c => ?_⟩
            · replace hp := gif_f hp c
              exact ih _ _ _ _ _ _ _ _ _ _ _ hR hp
            · replace hp := gif_t hp c
              exact ih _ _ _ _ _ _ _ _ _ _ _ hR hp
set_option maxRecDepth 100000 in
set_option maxHeartbeats 1000000 in
theorem gq_X12_item_67 {a0 : Nat} {arr : Nat → Nat} {r : Unit} {w' : MS} {Q : St → Prop} (hq : ∀ (s : St), RF a0 arr s → gret () (absM a0 arr s) = some (r, w') → Q s) : ∀ (x1 : Int32) (x2 : Int32) (x3 : Int32) (x4 : Int32) (x5 : Int32) (x6 : Int32) (x7 : Int32) (σ : St), RF a0 arr σ → g_X12_item_67 x1 x2 x3 x4 x5 x6 x7 (absM a0 arr σ) = some (r, w') → w_X12_item_67 Q  a0 x1 x2 x3 x4 x5 x6 x7 σ := by
  intro x1 x2 x3 x4 x5 x6 x7 σ hR hp
  unfold g_X12_item_67 at hp
  unfold w_X12_item_67
  refine ⟨FU, ?_⟩
  exact gq_X12_item_76 hq FU _ _ _ _ _ _ _ _ _ _ _ hR hp
set_option maxRecDepth 100000 in
set_option maxHeartbeats 1000000 in
theorem gq_X12_item_20 {a0 : Nat} {arr : Nat → Nat} {r : Unit} {w' : MS} {Q : St → Prop} (hq : ∀ (s : St), RF a0 arr s → gret () (absM a0 arr s) = some (r, w') → Q s) : ∀ (x1 : Int32) (x2 : Int32) (x3 : Int32) (x4 : Int32) (x5 : Int32) (x6 : Int32) (xs0 : Int32) (σ : St), RF a0 arr σ → g_X12_item_20 x1 x2 x3 x4 x5 x6 xs0 (absM a0 arr σ) = some (r, w') → w_X12_item_20 Q  a0 x1 x2 x3 x4 x5 x6 xs0 σ := by
  intro x1 x2 x3 x4 x5 x6 xs0 σ hR hp
  unfold g_X12_item_20 at hp
  unfold w_X12_item_20
  obtain ⟨x54, w55, he, hp⟩ := gb_some hp
  refine gq_X12_isIn hR he (fun s55 hR hw => ?_)
  subst hw
  clear he
  refine ⟨fun c => ?_, fun c => ?_⟩
  · replace hp := gif_t hp c
    exact gq_X12_item_67 hq _ _ _ _ _ _ _ _ hR hp
  · replace hp := gif_f hp c
    obtain ⟨x95, w96, he, hp⟩ := gb_some hp
    refine gq_X12_isIn hR he (fun s96 hR hw => ?_)
    subst hw
    clear he
    refine ⟨fun c => ?_, fun c => ?_⟩
    · replace hp := gif_t hp c
      exact gq_X12_item_67 hq _ _ _ _ _ _ _ _ hR hp
    · replace hp := gif_f hp c
      obtain ⟨x98, w99, he, hp⟩ := gb_some hp
      refine gq_X12_isIn hR he (fun s99 hR hw => ?_)
      subst hw
      clear he
      refine ⟨fun c => ?_, fun c => ?_⟩
      · replace hp := gif_t hp c
        exact gq_X12_item_67 hq _ _ _ _ _ _ _ _ hR hp
      · replace hp := gif_f hp c
        obtain ⟨x101, w102, he, hp⟩ := gb_some hp
        refine gq_X12_isIn hR he (fun s102 hR hw => ?_)
        subst hw
        clear he
        refine ⟨fun c => ?_, fun c => ?_⟩
        · replace hp := gif_t hp c
          exact gq_X12_item_67 hq _ _ _ _ _ _ _ _ hR hp
        · replace hp := gif_f hp c
          refine ⟨FU, ?_⟩
          exact gq_X12_item_76 hq FU _ _ _ _ _ _ _ _ _ _ _ hR hp
set_option maxRecDepth 100000 in
set_option maxHeartbeats 1000000 in
theorem gq_X12_item_19 {a0 : Nat} {arr : Nat → Nat} {r : Unit} {w' : MS} {Q : St → Prop} (hq : ∀ (s : St), RF a0 arr s → gret () (absM a0 arr s) = some (r, w') → Q s) : ∀ (x1 : Int32) (x2 : Int32) (x3 : Int32) (x4 : Int32) (x5 : Int32) (x6 : Int32) (σ : St), RF a0 arr σ → g_X12_item_19 x1 x2 x3 x4 x5 x6 (absM a0 arr σ) = some (r, w') → w_X12_item_19 Q  a0 x1 x2 x3 x4 x5 x6 σ := by
  intro x1 x2 x3 x4 x5 x6 σ hR hp
  unfold g_X12_item_19 at hp
  unfold w_X12_item_19
  exact gq_X12_item_20 hq _ _ _ _ _ _ _ _ hR hp
set_option maxRecDepth 100000 in
set_option maxHeartbeats 1000000 in
theorem gq_X12_item {a0 : Nat} {arr : Nat → Nat} {σ : St} {x1 : Int32} {x2 : Int32} {x3 : Int32} {x4 : Int32} {x5 : Int32} {x6 : Int32} (hR : RF a0 arr σ) {r : Unit} {w' : MS} (hp : g_X12_item x1 x2 x3 x4 x5 x6 (absM a0 arr σ) = some (r, w')) {Q : St → Prop} (hq : ∀ (s : St), RF a0 arr s → absM a0 arr s = w' → Q s) : w_X12_item a0 x1 x2 x3 x4 x5 x6 σ Q := by
  replace hq : ∀ (s : St), RF a0 arr s → gret () (absM a0 arr s) = some (r, w') → Q s := fun s hR e => by obtain ⟨rfl, hw⟩ := gret_some e; exact hq s hR hw
  unfold g_X12_item at hp
  unfold w_X12_item
  obtain ⟨x51, w52, he, hp⟩ := gb_some hp
  refine gq_X12_isItem hR he (fun s52 hR hw => ?_)
  subst hw
  clear he
  refine ⟨fun c => ?_, fun c => ?_⟩
  · replace hp := gif_t hp c
    exact gq_X12_item_19 hq _ _ _ _ _ _ _ hR hp
  · replace hp := gif_f hp c
    obtain ⟨x105, w106, he, hp⟩ := gb_some hp
    refine gq_X12_isGroup hR he (fun s106 hR hw => ?_)
    subst hw
    clear he
    refine ⟨fun c => ?_, fun c => ?_⟩
    · replace hp := gif_t hp c
      exact gq_X12_item_19 hq _ _ _ _ _ _ _ hR hp
    · replace hp := gif_f hp c
      exact gq_X12_item_20 hq _ _ _ _ _ _ _ _ hR hp
set_option maxRecDepth 100000 in
set_option maxHeartbeats 1000000 in
theorem gq_X12_judge_77 {a0 : Nat} {arr : Nat → Nat} {r : Int32} {w' : MS} {Q : Int32 → St → Prop} (hq : ∀ (s : St) (x : Int32), RF a0 arr s → gret x (absM a0 arr s) = some (r, w') → Q x s) : ∀ (x1 : Int32) (xs1 : Int32) (xs2 : Int32) (xs3 : Int32) (σ : St), RF a0 arr σ → g_X12_judge_77 x1 xs1 xs2 xs3 (absM a0 arr σ) = some (r, w') → w_X12_judge_77 Q  a0 x1 a0 xs1 xs2 xs3 σ := by
  intro x1 xs1 xs2 xs3 σ hR hp
  unfold g_X12_judge_77 at hp
  unfold w_X12_judge_77
  obtain ⟨u68, w68, he, hp⟩ := gb_some hp
  refine gq_X12_books hR he (fun s68 hR hw => ?_)
  subst hw
  clear he
  replace hp := grd_some hp
  intro o69 ho69
  rw [hR.ref 19 (by decide)] at ho69
  subst ho69
  refine ⟨arr 19, rfl, ?_⟩
  obtain ⟨hv, hp⟩ := gix_some hp
  refine ⟨by rw [hR.len 19 (by first | decide | assumption)]; exact hv, ?_⟩
  exact hq _ _ hR hp
set_option maxRecDepth 100000 in
set_option maxHeartbeats 1000000 in
theorem gq_X12_judge_47 {a0 : Nat} {arr : Nat → Nat} {r : Int32} {w' : MS} {Q : Int32 → St → Prop} (hq : ∀ (s : St) (x : Int32), RF a0 arr s → gret x (absM a0 arr s) = some (r, w') → Q x s) : ∀ (x1 : Int32) (x2 : Int32) (x3 : Int32) (xs1 : Int32) (σ : St), RF a0 arr σ → g_X12_judge_47 x1 x2 x3 xs1 (absM a0 arr σ) = some (r, w') → w_X12_judge_47 Q  a0 x1 x2 x3 a0 xs1 σ := by
  intro x1 x2 x3 xs1 σ hR hp
  unfold g_X12_judge_47 at hp
  unfold w_X12_judge_47
  obtain ⟨x61, w62, he, hp⟩ := gb_some hp
  refine gq_X12_holds hR he (fun s62 hR hw => ?_)
  subst hw
  clear he
  refine ⟨fun c => ?_, fun c => ?_⟩
  · replace hp := gif_f hp c
    obtain ⟨u65, w65, he, hp⟩ := gb_some hp
    refine gq_X12_books hR he (fun s65 hR hw => ?_)
    subst hw
    clear he
    refine ⟨fun c => ?_, fun c => ?_⟩
    · replace hp := gif_t hp c
      exact gq_X12_judge_77 hq _ _ _ _ _ hR hp
    · replace hp := gif_f hp c
      exact gq_X12_judge_77 hq _ _ _ _ _ hR hp
  · replace hp := gif_t hp c
    exact hq _ _ hR hp
set_option maxRecDepth 100000 in
set_option maxHeartbeats 1000000 in
theorem gq_X12_judge {a0 : Nat} {arr : Nat → Nat} {σ : St} {x1 : Int32} {x2 : Int32} {x3 : Int32} (hR : RF a0 arr σ) {r : Int32} {w' : MS} (hp : g_X12_judge x1 x2 x3 (absM a0 arr σ) = some (r, w')) {Q : Int32 → St → Prop} (hq : ∀ (s : St), RF a0 arr s → absM a0 arr s = w' → Q r s) : w_X12_judge a0 x1 x2 x3 σ Q := by
  replace hq : ∀ (s : St) (x : Int32), RF a0 arr s → gret x (absM a0 arr s) = some (r, w') → Q x s := fun s x hR e => by obtain ⟨rfl, hw⟩ := gret_some e; exact hq s hR hw
  unfold g_X12_judge at hp
  unfold w_X12_judge
  obtain ⟨x51, w52, he, hp⟩ := gb_some hp
  refine gq_X12_isLot hR he (fun s52 hR hw => ?_)
  subst hw
  clear he
  refine ⟨fun c => ?_, fun c => ?_⟩
  · replace hp := gif_f hp c
    obtain ⟨x54, w55, he, hp⟩ := gb_some hp
    refine gq_X12_arePieces hR he (fun s55 hR hw => ?_)
    subst hw
    clear he
    replace hp := grd_some hp
    refine ⟨fun c => ?_, fun c => ?_⟩
    · replace hp := gif_f hp c
      intro o57 ho57
      rw [hR.ref 19 (by decide)] at ho57
      subst ho57
      refine ⟨arr 19, rfl, ?_⟩
      obtain ⟨hv, hp⟩ := gix_some hp
      refine ⟨by rw [hR.len 19 (by first | decide | assumption)]; exact hv, ?_⟩
      refine ⟨fun c => ?_, fun c => ?_⟩
      · replace hp := gif_t hp c
        exact gq_X12_judge_47 hq _ _ _ _ _ hR hp
      · replace hp := gif_f hp c
        exact gq_X12_judge_47 hq _ _ _ _ _ hR hp
    · replace hp := gif_t hp c
      exact gq_X12_judge_47 hq _ _ _ _ _ hR hp
  · replace hp := gif_t hp c
    exact gq_X12_judge_47 hq _ _ _ _ _ hR hp
set_option maxRecDepth 100000 in
set_option maxHeartbeats 1000000 in
theorem gq_X12_lacks_40 {a0 : Nat} {arr : Nat → Nat} {r : Int32} {w' : MS} {Q : Int32 → St → Prop} (hq : ∀ (s : St) (x : Int32), RF a0 arr s → gret x (absM a0 arr s) = some (r, w') → Q x s) : ∀ (x1 : Int32) (x2 : Int32) (xs1 : Int32) (σ : St), RF a0 arr σ → g_X12_lacks_40 x1 x2 xs1 (absM a0 arr σ) = some (r, w') → w_X12_lacks_40 Q  a0 x1 x2 a0 xs1 σ := by
  intro x1 x2 xs1 σ hR hp
  unfold g_X12_lacks_40 at hp
  unfold w_X12_lacks_40
  obtain ⟨x55, w56, he, hp⟩ := gb_some hp
  refine gq_X12_holds hR he (fun s56 hR hw => ?_)
  subst hw
  clear he
  refine ⟨fun c => ?_, fun c => ?_⟩
  · replace hp := gif_t hp c
    exact hq _ _ hR hp
  · replace hp := gif_f hp c
    obtain ⟨x58, w59, he, hp⟩ := gb_some hp
    refine gq_X12_lacking hR he (fun s59 hR hw => ?_)
    subst hw
    clear he
    exact hq _ _ hR hp
set_option maxRecDepth 100000 in
set_option maxHeartbeats 1000000 in
theorem gq_X12_lacks_29 {a0 : Nat} {arr : Nat → Nat} {r : Int32} {w' : MS} {Q : Int32 → St → Prop} (hq : ∀ (s : St) (x : Int32), RF a0 arr s → gret x (absM a0 arr s) = some (r, w') → Q x s) : ∀ (x1 : Int32) (x2 : Int32) (xs0 : Int32) (σ : St), RF a0 arr σ → g_X12_lacks_29 x1 x2 xs0 (absM a0 arr σ) = some (r, w') → w_X12_lacks_29 Q  a0 x1 x2 xs0 σ := by
  intro x1 x2 xs0 σ hR hp
  unfold g_X12_lacks_29 at hp
  unfold w_X12_lacks_29
  refine ⟨fun c => ?_, fun c => ?_⟩
  · replace hp := gif_t hp c
    exact gq_X12_lacks_40 hq _ _ _ _ hR hp
  · replace hp := gif_f hp c
    exact gq_X12_lacks_40 hq _ _ _ _ hR hp
set_option maxRecDepth 100000 in
set_option maxHeartbeats 1000000 in
theorem gq_X12_lacks_28 {a0 : Nat} {arr : Nat → Nat} {r : Int32} {w' : MS} {Q : Int32 → St → Prop} (hq : ∀ (s : St) (x : Int32), RF a0 arr s → gret x (absM a0 arr s) = some (r, w') → Q x s) : ∀ (x1 : Int32) (x2 : Int32) (σ : St), RF a0 arr σ → g_X12_lacks_28 x1 x2 (absM a0 arr σ) = some (r, w') → w_X12_lacks_28 Q  a0 x1 x2 σ := by
  intro x1 x2 σ hR hp
  unfold g_X12_lacks_28 at hp
  unfold w_X12_lacks_28
  exact gq_X12_lacks_29 hq _ _ _ _ hR hp
set_option maxRecDepth 100000 in
set_option maxHeartbeats 1000000 in
theorem gq_X12_lacks {a0 : Nat} {arr : Nat → Nat} {σ : St} {x1 : Int32} {x2 : Int32} (hR : RF a0 arr σ) {r : Int32} {w' : MS} (hp : g_X12_lacks x1 x2 (absM a0 arr σ) = some (r, w')) {Q : Int32 → St → Prop} (hq : ∀ (s : St), RF a0 arr s → absM a0 arr s = w' → Q r s) : w_X12_lacks a0 x1 x2 σ Q := by
  replace hq : ∀ (s : St) (x : Int32), RF a0 arr s → gret x (absM a0 arr s) = some (r, w') → Q x s := fun s x hR e => by obtain ⟨rfl, hw⟩ := gret_some e; exact hq s hR hw
  unfold g_X12_lacks at hp
  unfold w_X12_lacks
  obtain ⟨x51, w52, he, hp⟩ := gb_some hp
  refine gq_X12_isOrder hR he (fun s52 hR hw => ?_)
  subst hw
  clear he
  replace hp := grd_some hp
  refine ⟨fun c => ?_, fun c => ?_⟩
  · replace hp := gif_t hp c
    exact gq_X12_lacks_28 hq _ _ _ hR hp
  · replace hp := gif_f hp c
    intro o60 ho60
    rw [hR.ref 31 (by decide)] at ho60
    subst ho60
    refine ⟨arr 31, rfl, ?_⟩
    obtain ⟨hv, hp⟩ := gix_some hp
    refine ⟨by rw [hR.len 31 (by first | decide | assumption)]; exact hv, ?_⟩
    obtain ⟨x63, w64, he, hp⟩ := gb_some hp
    refine gq_X12_isIn hR he (fun s64 hR hw => ?_)
    subst hw
    clear he
    refine ⟨fun c => ?_, fun c => ?_⟩
    · replace hp := gif_t hp c
      exact gq_X12_lacks_28 hq _ _ _ hR hp
    · replace hp := gif_f hp c
      exact gq_X12_lacks_29 hq _ _ _ _ hR hp
set_option maxRecDepth 100000 in
set_option maxHeartbeats 1000000 in
theorem gq_X12_line_67 {a0 : Nat} {arr : Nat → Nat} {r : Int32} {w' : MS} {Q : Int32 → St → Prop} (hq : ∀ (s : St) (x : Int32), RF a0 arr s → gret x (absM a0 arr s) = some (r, w') → Q x s) : ∀ (x1 : Int32) (x2 : Int32) (x3 : Int32) (xs1 : Int32) (σ : St), RF a0 arr σ → g_X12_line_67 x1 x2 x3 xs1 (absM a0 arr σ) = some (r, w') → w_X12_line_67 Q  a0 x1 x2 x3 a0 xs1 σ := by
  intro x1 x2 x3 xs1 σ hR hp
  unfold g_X12_line_67 at hp
  unfold w_X12_line_67
  obtain ⟨x62, w63, he, hp⟩ := gb_some hp
  refine gq_X12_holds hR he (fun s63 hR hw => ?_)
  subst hw
  clear he
  replace hp := grd_some hp
  refine ⟨fun c => ?_, fun c => ?_⟩
  · replace hp := gif_f hp c
    intro o65 ho65
    rw [hR.ref 31 (by decide)] at ho65
    subst ho65
    refine ⟨arr 31, rfl, ?_⟩
    obtain ⟨hv, hp⟩ := gix_some hp
    refine ⟨by rw [hR.len 31 (by first | decide | assumption)]; exact hv, ?_⟩
    intro x68 hx68
    obtain ⟨yx68, ex68, hp⟩ := gbo_some hp
    obtain rfl : yx68 = x68 := ex68.trans hx68.symm
    intro o69 ho69
    rw [hR.ref 36 (by decide)] at ho69
    subst ho69
    refine ⟨arr 36, rfl, ?_⟩
    obtain ⟨hv, hp⟩ := gix_some hp
    refine ⟨by rw [hR.len 36 (by first | decide | assumption)]; exact hv, ?_⟩
    intro s72 hs72
    have h2 := abs_setA hR 36 (by first | decide | assumption) hs72
    replace hR := hR.setA hs72
    replace hp := gst_up hp h2
    clear h2 hs72
    intro o73 ho73
    rw [hR.ref 37 (by decide)] at ho73
    subst ho73
    refine ⟨arr 37, rfl, ?_⟩
    obtain ⟨hv, hp⟩ := gix_some hp
    refine ⟨by rw [hR.len 37 (by first | decide | assumption)]; exact hv, ?_⟩
    intro s76 hs76
    have h2 := abs_setA hR 37 (by first | decide | assumption) hs76
    replace hR := hR.setA hs76
    replace hp := gst_up hp h2
    clear h2 hs76
    replace hp := grd_some hp
    intro o77 ho77
    rw [hR.ref 31 (by decide)] at ho77
    subst ho77
    refine ⟨arr 31, rfl, ?_⟩
    obtain ⟨hv, hp⟩ := gix_some hp
    refine ⟨by rw [hR.len 31 (by first | decide | assumption)]; exact hv, ?_⟩
    obtain ⟨hv, hp⟩ := gix_some hp
    refine ⟨by rw [hR.len 31 (by first | decide | assumption)]; exact hv, ?_⟩
    intro s81 hs81
    have h2 := abs_setA hR 31 (by first | decide | assumption) hs81
    replace hR := hR.setA hs81
    replace hp := gst_up hp h2
    clear h2 hs81
    replace hp := grd_some hp
    intro o82 ho82
    rw [hR.ref 31 (by decide)] at ho82
    subst ho82
    refine ⟨arr 31, rfl, ?_⟩
    obtain ⟨hv, hp⟩ := gix_some hp
    refine ⟨by rw [hR.len 31 (by first | decide | assumption)]; exact hv, ?_⟩
    exact hq _ _ hR hp
  · replace hp := gif_t hp c
    exact hq _ _ hR hp
set_option maxRecDepth 100000 in
set_option maxHeartbeats 1000000 in
theorem gq_X12_line_20 {a0 : Nat} {arr : Nat → Nat} {r : Int32} {w' : MS} {Q : Int32 → St → Prop} (hq : ∀ (s : St) (x : Int32), RF a0 arr s → gret x (absM a0 arr s) = some (r, w') → Q x s) : ∀ (x1 : Int32) (x2 : Int32) (x3 : Int32) (xs0 : Int32) (σ : St), RF a0 arr σ → g_X12_line_20 x1 x2 x3 xs0 (absM a0 arr σ) = some (r, w') → w_X12_line_20 Q  a0 x1 x2 x3 xs0 σ := by
  intro x1 x2 x3 xs0 σ hR hp
  unfold g_X12_line_20 at hp
  unfold w_X12_line_20
  refine ⟨fun c => ?_, fun c => ?_⟩
  · replace hp := gif_f hp c
    obtain ⟨x55, w56, he, hp⟩ := gb_some hp
    refine gq_X12_arePieces hR he (fun s56 hR hw => ?_)
    subst hw
    clear he
    replace hp := grd_some hp
    refine ⟨fun c => ?_, fun c => ?_⟩
    · replace hp := gif_f hp c
      intro o58 ho58
      rw [hR.ref 31 (by decide)] at ho58
      subst ho58
      refine ⟨arr 31, rfl, ?_⟩
      obtain ⟨hv, hp⟩ := gix_some hp
      refine ⟨by rw [hR.len 31 (by first | decide | assumption)]; exact hv, ?_⟩
      refine ⟨fun c => ?_, fun c => ?_⟩
      · replace hp := gif_t hp c
        exact gq_X12_line_67 hq _ _ _ _ _ hR hp
      · replace hp := gif_f hp c
        intro o85 ho85
        rw [hR.ref 32 (by decide)] at ho85
        subst ho85
        refine ⟨arr 32, rfl, ?_⟩
        obtain ⟨hv, hp⟩ := gix_some hp
        refine ⟨by rw [hR.len 32 (by first | decide | assumption)]; exact hv, ?_⟩
        refine ⟨fun c => ?_, fun c => ?_⟩
        · replace hp := gif_t hp c
          exact gq_X12_line_67 hq _ _ _ _ _ hR hp
        · replace hp := gif_f hp c
          exact gq_X12_line_67 hq _ _ _ _ _ hR hp
    · replace hp := gif_t hp c
      exact gq_X12_line_67 hq _ _ _ _ _ hR hp
  · replace hp := gif_t hp c
    exact gq_X12_line_67 hq _ _ _ _ _ hR hp
set_option maxRecDepth 100000 in
set_option maxHeartbeats 1000000 in
theorem gq_X12_line_19 {a0 : Nat} {arr : Nat → Nat} {r : Int32} {w' : MS} {Q : Int32 → St → Prop} (hq : ∀ (s : St) (x : Int32), RF a0 arr s → gret x (absM a0 arr s) = some (r, w') → Q x s) : ∀ (x1 : Int32) (x2 : Int32) (x3 : Int32) (σ : St), RF a0 arr σ → g_X12_line_19 x1 x2 x3 (absM a0 arr σ) = some (r, w') → w_X12_line_19 Q  a0 x1 x2 x3 σ := by
  intro x1 x2 x3 σ hR hp
  unfold g_X12_line_19 at hp
  unfold w_X12_line_19
  exact gq_X12_line_20 hq _ _ _ _ _ hR hp
set_option maxRecDepth 100000 in
set_option maxHeartbeats 1000000 in
theorem gq_X12_line {a0 : Nat} {arr : Nat → Nat} {σ : St} {x1 : Int32} {x2 : Int32} {x3 : Int32} (hR : RF a0 arr σ) {r : Int32} {w' : MS} (hp : g_X12_line x1 x2 x3 (absM a0 arr σ) = some (r, w')) {Q : Int32 → St → Prop} (hq : ∀ (s : St), RF a0 arr s → absM a0 arr s = w' → Q r s) : w_X12_line a0 x1 x2 x3 σ Q := by
  replace hq : ∀ (s : St) (x : Int32), RF a0 arr s → gret x (absM a0 arr s) = some (r, w') → Q x s := fun s x hR e => by obtain ⟨rfl, hw⟩ := gret_some e; exact hq s hR hw
  unfold g_X12_line at hp
  unfold w_X12_line
  obtain ⟨x51, w52, he, hp⟩ := gb_some hp
  refine gq_X12_isOrder hR he (fun s52 hR hw => ?_)
  subst hw
  clear he
  refine ⟨fun c => ?_, fun c => ?_⟩
  · replace hp := gif_t hp c
    exact gq_X12_line_19 hq _ _ _ _ hR hp
  · replace hp := gif_f hp c
    obtain ⟨x89, w90, he, hp⟩ := gb_some hp
    refine gq_X12_isItem hR he (fun s90 hR hw => ?_)
    subst hw
    clear he
    refine ⟨fun c => ?_, fun c => ?_⟩
    · replace hp := gif_t hp c
      exact gq_X12_line_19 hq _ _ _ _ hR hp
    · replace hp := gif_f hp c
      exact gq_X12_line_20 hq _ _ _ _ _ hR hp
set_option maxRecDepth 100000 in
set_option maxHeartbeats 1000000 in
theorem gq_X12_lose_44 {a0 : Nat} {arr : Nat → Nat} {r : Int32} {w' : MS} {Q : Int32 → St → Prop} (hq : ∀ (s : St) (x : Int32), RF a0 arr s → gret x (absM a0 arr s) = some (r, w') → Q x s) : ∀ (x1 : Int32) (x2 : Int32) (x3 : Int32) (xs1 : Int32) (σ : St), RF a0 arr σ → g_X12_lose_44 x1 x2 x3 xs1 (absM a0 arr σ) = some (r, w') → w_X12_lose_44 Q  a0 x1 x2 x3 a0 xs1 σ := by
  intro x1 x2 x3 xs1 σ hR hp
  unfold g_X12_lose_44 at hp
  unfold w_X12_lose_44
  obtain ⟨x58, w59, he, hp⟩ := gb_some hp
  refine gq_X12_holds hR he (fun s59 hR hw => ?_)
  subst hw
  clear he
  replace hp := grd_some hp
  refine ⟨fun c => ?_, fun c => ?_⟩
  · replace hp := gif_f hp c
    intro o61 ho61
    rw [hR.ref 20 (by decide)] at ho61
    subst ho61
    intro x62 hx62
    obtain ⟨yx62, ex62, hp⟩ := gbo_some hp
    obtain rfl : yx62 = x62 := ex62.trans hx62.symm
    refine ⟨arr 20, rfl, ?_⟩
    obtain ⟨hv, hp⟩ := gix_some hp
    refine ⟨by rw [hR.len 20 (by first | decide | assumption)]; exact hv, ?_⟩
    intro o65 ho65
    rw [hR.ref 20 (by decide)] at ho65
    subst ho65
    refine ⟨arr 20, rfl, ?_⟩
    obtain ⟨hv, hp⟩ := gix_some hp
    refine ⟨by rw [hR.len 20 (by first | decide | assumption)]; exact hv, ?_⟩
    obtain ⟨x68, w69, he, hp⟩ := gb_some hp
    refine gq_X12_less hR he (fun s69 hR hw => ?_)
    subst hw
    clear he
    obtain ⟨hv, hp⟩ := gix_some hp
    refine ⟨by rw [hR.len 20 (by first | decide | assumption)]; exact hv, ?_⟩
    intro s71 hs71
    have h2 := abs_setA hR 20 (by first | decide | assumption) hs71
    replace hR := hR.setA hs71
    replace hp := gst_up hp h2
    clear h2 hs71
    replace hp := grd_some hp
    intro o72 ho72
    rw [hR.ref 20 (by decide)] at ho72
    subst ho72
    refine ⟨arr 20, rfl, ?_⟩
    obtain ⟨hv, hp⟩ := gix_some hp
    refine ⟨by rw [hR.len 20 (by first | decide | assumption)]; exact hv, ?_⟩
    exact hq _ _ hR hp
  · replace hp := gif_t hp c
    exact hq _ _ hR hp
set_option maxRecDepth 100000 in
set_option maxHeartbeats 1000000 in
theorem gq_X12_lose_20 {a0 : Nat} {arr : Nat → Nat} {r : Int32} {w' : MS} {Q : Int32 → St → Prop} (hq : ∀ (s : St) (x : Int32), RF a0 arr s → gret x (absM a0 arr s) = some (r, w') → Q x s) : ∀ (x1 : Int32) (x2 : Int32) (x3 : Int32) (xs0 : Int32) (σ : St), RF a0 arr σ → g_X12_lose_20 x1 x2 x3 xs0 (absM a0 arr σ) = some (r, w') → w_X12_lose_20 Q  a0 x1 x2 x3 xs0 σ := by
  intro x1 x2 x3 xs0 σ hR hp
  unfold g_X12_lose_20 at hp
  unfold w_X12_lose_20
  refine ⟨fun c => ?_, fun c => ?_⟩
  · replace hp := gif_f hp c
    obtain ⟨x55, w56, he, hp⟩ := gb_some hp
    refine gq_X12_arePieces hR he (fun s56 hR hw => ?_)
    subst hw
    clear he
    refine ⟨fun c => ?_, fun c => ?_⟩
    · replace hp := gif_t hp c
      exact gq_X12_lose_44 hq _ _ _ _ _ hR hp
    · replace hp := gif_f hp c
      exact gq_X12_lose_44 hq _ _ _ _ _ hR hp
  · replace hp := gif_t hp c
    exact gq_X12_lose_44 hq _ _ _ _ _ hR hp
set_option maxRecDepth 100000 in
set_option maxHeartbeats 1000000 in
theorem gq_X12_lose_19 {a0 : Nat} {arr : Nat → Nat} {r : Int32} {w' : MS} {Q : Int32 → St → Prop} (hq : ∀ (s : St) (x : Int32), RF a0 arr s → gret x (absM a0 arr s) = some (r, w') → Q x s) : ∀ (x1 : Int32) (x2 : Int32) (x3 : Int32) (σ : St), RF a0 arr σ → g_X12_lose_19 x1 x2 x3 (absM a0 arr σ) = some (r, w') → w_X12_lose_19 Q  a0 x1 x2 x3 σ := by
  intro x1 x2 x3 σ hR hp
  unfold g_X12_lose_19 at hp
  unfold w_X12_lose_19
  exact gq_X12_lose_20 hq _ _ _ _ _ hR hp
set_option maxRecDepth 100000 in
set_option maxHeartbeats 1000000 in
theorem gq_X12_lose {a0 : Nat} {arr : Nat → Nat} {σ : St} {x1 : Int32} {x2 : Int32} {x3 : Int32} (hR : RF a0 arr σ) {r : Int32} {w' : MS} (hp : g_X12_lose x1 x2 x3 (absM a0 arr σ) = some (r, w')) {Q : Int32 → St → Prop} (hq : ∀ (s : St), RF a0 arr s → absM a0 arr s = w' → Q r s) : w_X12_lose a0 x1 x2 x3 σ Q := by
  replace hq : ∀ (s : St) (x : Int32), RF a0 arr s → gret x (absM a0 arr s) = some (r, w') → Q x s := fun s x hR e => by obtain ⟨rfl, hw⟩ := gret_some e; exact hq s hR hw
  unfold g_X12_lose at hp
  unfold w_X12_lose
  obtain ⟨x51, w52, he, hp⟩ := gb_some hp
  refine gq_X12_isSlot hR he (fun s52 hR hw => ?_)
  subst hw
  clear he
  refine ⟨fun c => ?_, fun c => ?_⟩
  · replace hp := gif_t hp c
    exact gq_X12_lose_19 hq _ _ _ _ hR hp
  · replace hp := gif_f hp c
    obtain ⟨x75, w76, he, hp⟩ := gb_some hp
    refine gq_X12_isLot hR he (fun s76 hR hw => ?_)
    subst hw
    clear he
    refine ⟨fun c => ?_, fun c => ?_⟩
    · replace hp := gif_t hp c
      exact gq_X12_lose_19 hq _ _ _ _ hR hp
    · replace hp := gif_f hp c
      exact gq_X12_lose_20 hq _ _ _ _ _ hR hp
set_option maxRecDepth 100000 in
set_option maxHeartbeats 1000000 in
theorem gq_X12_lot_41 {a0 : Nat} {arr : Nat → Nat} {r : Int32} {w' : MS} {Q : Int32 → St → Prop} (hq : ∀ (s : St) (x : Int32), RF a0 arr s → gret x (absM a0 arr s) = some (r, w') → Q x s) : ∀ (x1 : Int32) (x2 : Int32) (xs1 : Int32) (σ : St), RF a0 arr σ → g_X12_lot_41 x1 x2 xs1 (absM a0 arr σ) = some (r, w') → w_X12_lot_41 Q  a0 x1 x2 a0 xs1 σ := by
  intro x1 x2 xs1 σ hR hp
  unfold g_X12_lot_41 at hp
  unfold w_X12_lot_41
  obtain ⟨x58, w59, he, hp⟩ := gb_some hp
  refine gq_X12_holds hR he (fun s59 hR hw => ?_)
  subst hw
  clear he
  replace hp := grd_some hp
  refine ⟨fun c => ?_, fun c => ?_⟩
  · replace hp := gif_f hp c
    intro o61 ho61
    rw [hR.ref 16 (by decide)] at ho61
    subst ho61
    refine ⟨arr 16, rfl, ?_⟩
    obtain ⟨hv, hp⟩ := gix_some hp
    refine ⟨by rw [hR.len 16 (by first | decide | assumption)]; exact hv, ?_⟩
    intro s64 hs64
    have h2 := abs_setA hR 16 (by first | decide | assumption) hs64
    replace hR := hR.setA hs64
    replace hp := gst_up hp h2
    clear h2 hs64
    replace hp := grd_some hp
    intro o65 ho65
    rw [hR.ref 17 (by decide)] at ho65
    subst ho65
    refine ⟨arr 17, rfl, ?_⟩
    obtain ⟨hv, hp⟩ := gix_some hp
    refine ⟨by rw [hR.len 17 (by first | decide | assumption)]; exact hv, ?_⟩
    intro s68 hs68
    have h2 := abs_setA hR 17 (by first | decide | assumption) hs68
    replace hR := hR.setA hs68
    replace hp := gst_up hp h2
    clear h2 hs68
    replace hp := grd_some hp
    intro s69 hs69
    have h2 := abs_setI (arr := arr) 15 (by decide) hs69
    replace hR := hR.setI hs69
    replace hp := gst_up hp h2
    clear h2 hs69
    replace hp := grd_some hp
    exact hq _ _ hR hp
  · replace hp := gif_t hp c
    exact hq _ _ hR hp
set_option maxRecDepth 100000 in
set_option maxHeartbeats 1000000 in
theorem gq_X12_lot {a0 : Nat} {arr : Nat → Nat} {σ : St} {x1 : Int32} {x2 : Int32} (hR : RF a0 arr σ) {r : Int32} {w' : MS} (hp : g_X12_lot x1 x2 (absM a0 arr σ) = some (r, w')) {Q : Int32 → St → Prop} (hq : ∀ (s : St), RF a0 arr s → absM a0 arr s = w' → Q r s) : w_X12_lot a0 x1 x2 σ Q := by
  replace hq : ∀ (s : St) (x : Int32), RF a0 arr s → gret x (absM a0 arr s) = some (r, w') → Q x s := fun s x hR e => by obtain ⟨rfl, hw⟩ := gret_some e; exact hq s hR hw
  unfold g_X12_lot at hp
  unfold w_X12_lot
  obtain ⟨x51, w52, he, hp⟩ := gb_some hp
  refine gq_X12_isItem hR he (fun s52 hR hw => ?_)
  subst hw
  clear he
  refine ⟨fun c => ?_, fun c => ?_⟩
  · replace hp := gif_f hp c
    obtain ⟨x54, w55, he, hp⟩ := gb_some hp
    refine gq_X12_isIn hR he (fun s55 hR hw => ?_)
    subst hw
    clear he
    replace hp := grd_some hp
    refine ⟨fun c => ?_, fun c => ?_⟩
    · replace hp := gif_f hp c
      refine ⟨fun c => ?_, fun c => ?_⟩
      · replace hp := gif_f hp c
        exact gq_X12_lot_41 hq _ _ _ _ hR hp
      · replace hp := gif_t hp c
        exact gq_X12_lot_41 hq _ _ _ _ hR hp
    · replace hp := gif_t hp c
      exact gq_X12_lot_41 hq _ _ _ _ hR hp
  · replace hp := gif_t hp c
    exact gq_X12_lot_41 hq _ _ _ _ hR hp
set_option maxRecDepth 100000 in
set_option maxHeartbeats 1000000 in
theorem gq_X12_notice_37 {a0 : Nat} {arr : Nat → Nat} {r : Int32} {w' : MS} {Q : Int32 → St → Prop} (hq : ∀ (s : St) (x : Int32), RF a0 arr s → gret x (absM a0 arr s) = some (r, w') → Q x s) : ∀ (x1 : Int32) (x2 : Int32) (xs1 : Int32) (σ : St), RF a0 arr σ → g_X12_notice_37 x1 x2 xs1 (absM a0 arr σ) = some (r, w') → w_X12_notice_37 Q  a0 x1 x2 a0 xs1 σ := by
  intro x1 x2 xs1 σ hR hp
  unfold g_X12_notice_37 at hp
  unfold w_X12_notice_37
  obtain ⟨x58, w59, he, hp⟩ := gb_some hp
  refine gq_X12_holds hR he (fun s59 hR hw => ?_)
  subst hw
  clear he
  replace hp := grd_some hp
  refine ⟨fun c => ?_, fun c => ?_⟩
  · replace hp := gif_f hp c
    intro o61 ho61
    rw [hR.ref 23 (by decide)] at ho61
    subst ho61
    refine ⟨arr 23, rfl, ?_⟩
    obtain ⟨hv, hp⟩ := gix_some hp
    refine ⟨by rw [hR.len 23 (by first | decide | assumption)]; exact hv, ?_⟩
    intro s64 hs64
    have h2 := abs_setA hR 23 (by first | decide | assumption) hs64
    replace hR := hR.setA hs64
    replace hp := gst_up hp h2
    clear h2 hs64
    replace hp := grd_some hp
    intro o65 ho65
    rw [hR.ref 24 (by decide)] at ho65
    subst ho65
    refine ⟨arr 24, rfl, ?_⟩
    obtain ⟨hv, hp⟩ := gix_some hp
    refine ⟨by rw [hR.len 24 (by first | decide | assumption)]; exact hv, ?_⟩
    intro s68 hs68
    have h2 := abs_setA hR 24 (by first | decide | assumption) hs68
    replace hR := hR.setA hs68
    replace hp := gst_up hp h2
    clear h2 hs68
    replace hp := grd_some hp
    intro s69 hs69
    have h2 := abs_setI (arr := arr) 22 (by decide) hs69
    replace hR := hR.setI hs69
    replace hp := gst_up hp h2
    clear h2 hs69
    replace hp := grd_some hp
    exact hq _ _ hR hp
  · replace hp := gif_t hp c
    exact hq _ _ hR hp
set_option maxRecDepth 100000 in
set_option maxHeartbeats 1000000 in
theorem gq_X12_notice {a0 : Nat} {arr : Nat → Nat} {σ : St} {x1 : Int32} {x2 : Int32} (hR : RF a0 arr σ) {r : Int32} {w' : MS} (hp : g_X12_notice x1 x2 (absM a0 arr σ) = some (r, w')) {Q : Int32 → St → Prop} (hq : ∀ (s : St), RF a0 arr s → absM a0 arr s = w' → Q r s) : w_X12_notice a0 x1 x2 σ Q := by
  replace hq : ∀ (s : St) (x : Int32), RF a0 arr s → gret x (absM a0 arr s) = some (r, w') → Q x s := fun s x hR e => by obtain ⟨rfl, hw⟩ := gret_some e; exact hq s hR hw
  unfold g_X12_notice at hp
  unfold w_X12_notice
  obtain ⟨x51, w52, he, hp⟩ := gb_some hp
  refine gq_X12_isItem hR he (fun s52 hR hw => ?_)
  subst hw
  clear he
  refine ⟨fun c => ?_, fun c => ?_⟩
  · replace hp := gif_f hp c
    obtain ⟨x54, w55, he, hp⟩ := gb_some hp
    refine gq_X12_arePieces hR he (fun s55 hR hw => ?_)
    subst hw
    clear he
    replace hp := grd_some hp
    refine ⟨fun c => ?_, fun c => ?_⟩
    · replace hp := gif_f hp c
      refine ⟨fun c => ?_, fun c => ?_⟩
      · replace hp := gif_f hp c
        exact gq_X12_notice_37 hq _ _ _ _ hR hp
      · replace hp := gif_t hp c
        exact gq_X12_notice_37 hq _ _ _ _ hR hp
    · replace hp := gif_t hp c
      exact gq_X12_notice_37 hq _ _ _ _ hR hp
  · replace hp := gif_t hp c
    exact gq_X12_notice_37 hq _ _ _ _ hR hp
set_option maxRecDepth 100000 in
set_option maxHeartbeats 1000000 in
theorem gq_X12_others_14 {a0 : Nat} {arr : Nat → Nat} {r : Int32} {w' : MS} {Q : Int32 → St → Prop} (hq : ∀ (s : St) (x : Int32), RF a0 arr s → gret x (absM a0 arr s) = some (r, w') → Q x s) : ∀ (x1 : Int32) (xs1 : Int32) (σ : St), RF a0 arr σ → g_X12_others_14 x1 xs1 (absM a0 arr σ) = some (r, w') → w_X12_others_14 Q  a0 x1 a0 xs1 σ := by
  intro x1 xs1 σ hR hp
  unfold g_X12_others_14 at hp
  unfold w_X12_others_14
  obtain ⟨x54, w55, he, hp⟩ := gb_some hp
  refine gq_X12_holds hR he (fun s55 hR hw => ?_)
  subst hw
  clear he
  refine ⟨fun c => ?_, fun c => ?_⟩
  · replace hp := gif_t hp c
    exact hq _ _ hR hp
  · replace hp := gif_f hp c
    obtain ⟨x57, w58, he, hp⟩ := gb_some hp
    refine gq_X12_cameOf hR he (fun s58 hR hw => ?_)
    subst hw
    clear he
    exact hq _ _ hR hp
set_option maxRecDepth 100000 in
set_option maxHeartbeats 1000000 in
theorem gq_X12_others {a0 : Nat} {arr : Nat → Nat} {σ : St} {x1 : Int32} (hR : RF a0 arr σ) {r : Int32} {w' : MS} (hp : g_X12_others x1 (absM a0 arr σ) = some (r, w')) {Q : Int32 → St → Prop} (hq : ∀ (s : St), RF a0 arr s → absM a0 arr s = w' → Q r s) : w_X12_others a0 x1 σ Q := by
  replace hq : ∀ (s : St) (x : Int32), RF a0 arr s → gret x (absM a0 arr s) = some (r, w') → Q x s := fun s x hR e => by obtain ⟨rfl, hw⟩ := gret_some e; exact hq s hR hw
  unfold g_X12_others at hp
  unfold w_X12_others
  obtain ⟨x51, w52, he, hp⟩ := gb_some hp
  refine gq_X12_isNotice hR he (fun s52 hR hw => ?_)
  subst hw
  clear he
  refine ⟨fun c => ?_, fun c => ?_⟩
  · replace hp := gif_t hp c
    exact gq_X12_others_14 hq _ _ _ hR hp
  · replace hp := gif_f hp c
    exact gq_X12_others_14 hq _ _ _ hR hp
set_option maxRecDepth 100000 in
set_option maxHeartbeats 1000000 in
theorem gq_X12_recall_145 {a0 : Nat} {arr : Nat → Nat} {r : Int32} {w' : MS} {Q : Int32 → St → Prop} (hq : ∀ (s : St) (x : Int32), RF a0 arr s → gret x (absM a0 arr s) = some (r, w') → Q x s) : ∀ (f : Nat) (x1 : Int32) (x3 : Int32) (x4 : Int32) (σ : St), RF a0 arr σ → g_X12_recall_145 f x1 x3 x4 (absM a0 arr σ) = some (r, w') → w_X12_recall_145 Q  f a0 x1 x3 x4 σ := by
  intro f
  induction f with
  | zero => intro x1 x3 x4 σ hR hp; cases hp
  | succ f ih =>
    intro x1 x3 x4 σ hR hp
    unfold g_X12_recall_145 at hp
    unfold w_X12_recall_145
    replace hp := grd_some hp
    refine ⟨fun c => ?_, fun c => ?_⟩
    · replace hp := gif_t hp c
      exact hq _ _ hR hp
    · replace hp := gif_f hp c
      intro o70 ho70
      rw [hR.ref 33 (by decide)] at ho70
      subst ho70
      refine ⟨arr 33, rfl, ?_⟩
      obtain ⟨hv, hp⟩ := gix_some hp
      refine ⟨by rw [hR.len 33 (by first | decide | assumption)]; exact hv, ?_⟩
      intro x73 hx73
      obtain ⟨yx73, ex73, hp⟩ := gbo_some hp
      obtain rfl : yx73 = x73 := ex73.trans hx73.symm
      exact ih _ _ _ _ hR hp
set_option maxRecDepth 100000 in
set_option maxHeartbeats 1000000 in
theorem gq_X12_recall_88 {a0 : Nat} {arr : Nat → Nat} {r : Int32} {w' : MS} {Q : Int32 → St → Prop} (hq : ∀ (s : St) (x : Int32), RF a0 arr s → gret x (absM a0 arr s) = some (r, w') → Q x s) : ∀ (f : Nat) (x1 : Int32) (x3 : Int32) (σ : St), RF a0 arr σ → g_X12_recall_88 f x1 x3 (absM a0 arr σ) = some (r, w') → w_X12_recall_88 Q  f a0 x1 x3 σ := by
  intro f
  induction f with
  | zero => intro x1 x3 σ hR hp; cases hp
  | succ f ih =>
    intro x1 x3 σ hR hp
    unfold g_X12_recall_88 at hp
    unfold w_X12_recall_88
    replace hp := grd_some hp
    refine ⟨fun c => ?_, fun c => ?_⟩
    · replace hp := gif_t hp c
      obtain ⟨u68, w68, he, hp⟩ := gb_some hp
      refine gq_X12_tidies hR he (fun s68 hR hw => ?_)
      subst hw
      clear he
      refine ⟨FU, ?_⟩
      exact gq_X12_recall_145 hq FU _ _ _ _ hR hp
    · replace hp := gif_f hp c
      obtain ⟨x75, w76, he, hp⟩ := gb_some hp
      refine gq_X12_isOn hR he (fun s76 hR hw => ?_)
      subst hw
      clear he
      replace hp := grd_some hp
      refine ⟨fun c => ?_, fun c => ?_⟩
      · replace hp := gif_t hp c
        exact ih _ _ _ hR hp
      · replace hp := gif_f hp c
        intro o78 ho78
        rw [hR.ref 46 (by decide)] at ho78
        subst ho78
        refine ⟨arr 46, rfl, ?_⟩
        obtain ⟨hv, hp⟩ := gix_some hp
        refine ⟨by rw [hR.len 46 (by first | decide | assumption)]; exact hv, ?_⟩
        refine ⟨fun c => ?_, fun c => ?_⟩
        · replace hp := gif_f hp c
          exact ih _ _ _ hR hp
        · replace hp := gif_t hp c
          intro o82 ho82
          rw [hR.ref 47 (by decide)] at ho82
          subst ho82
          refine ⟨arr 47, rfl, ?_⟩
          obtain ⟨hv, hp⟩ := gix_some hp
          refine ⟨by rw [hR.len 47 (by first | decide | assumption)]; exact hv, ?_⟩
          refine ⟨fun c => ?_, fun c => ?_⟩
          · replace hp := gif_f hp c
            exact ih _ _ _ hR hp
          · replace hp := gif_t hp c
            obtain ⟨u87, w87, he, hp⟩ := gb_some hp
            refine gq_X12_ends hR he (fun s87 hR hw => ?_)
            subst hw
            clear he
            exact ih _ _ _ hR hp
set_option maxRecDepth 100000 in
set_option maxHeartbeats 1000000 in
theorem gq_X12_recall_79 {a0 : Nat} {arr : Nat → Nat} {r : Int32} {w' : MS} {Q : Int32 → St → Prop} (hq : ∀ (s : St) (x : Int32), RF a0 arr s → gret x (absM a0 arr s) = some (r, w') → Q x s) {K46 : Nat → Int32 → Int32 → St → Prop} {LK46 : Int32 → Int32 → GM (Int32)} (hK46 : ∀ (y1 : Int32) (y2 : Int32) (y3 : St), RF a0 arr y3 → LK46 y1 y2 (absM a0 arr y3) = some (r, w') → K46 a0 y1 y2 y3) : ∀ (x1 : Int32) (x3 : Int32) (os0 : Nat) (xs1 : Int32) (xs2 : Int32) (σ : St), RF a0 arr σ → g_X12_recall_79 LK46 x1 x3 os0 xs1 xs2 (absM a0 arr σ) = some (r, w') → w_X12_recall_79 Q K46 a0 x1 x3 (some (arr os0)) xs1 xs2 σ := by
  intro x1 x3 os0 xs1 xs2 σ hR hp
  unfold g_X12_recall_79 at hp
  unfold w_X12_recall_79
  obtain ⟨hAos0, hp⟩ := gmd_some hp
  refine ⟨arr os0, rfl, ?_⟩
  obtain ⟨hv, hp⟩ := gix_some hp
  refine ⟨by rw [hR.len os0 (by first | decide | assumption)]; exact hv, ?_⟩
  intro s99 hs99
  have h2 := abs_setA hR os0 (by first | decide | assumption) hs99
  replace hR := hR.setA hs99
  replace hp := gst_up hp h2
  clear h2 hs99
  exact hK46 _ _ _ hR hp
set_option maxRecDepth 100000 in
set_option maxHeartbeats 1000000 in
theorem gq_X12_recall_46 {a0 : Nat} {arr : Nat → Nat} {r : Int32} {w' : MS} {Q : Int32 → St → Prop} (hq : ∀ (s : St) (x : Int32), RF a0 arr s → gret x (absM a0 arr s) = some (r, w') → Q x s) : ∀ (f : Nat) (x1 : Int32) (x3 : Int32) (σ : St), RF a0 arr σ → g_X12_recall_46 f x1 x3 (absM a0 arr σ) = some (r, w') → w_X12_recall_46 Q  f a0 x1 x3 σ := by
  intro f
  induction f with
  | zero => intro x1 x3 σ hR hp; cases hp
  | succ f ih =>
    intro x1 x3 σ hR hp
    unfold g_X12_recall_46 at hp
    unfold w_X12_recall_46
    replace hp := grd_some hp
    refine ⟨fun c => ?_, fun c => ?_⟩
    · replace hp := gif_t hp c
      refine ⟨FU, ?_⟩
      exact gq_X12_recall_88 hq FU _ _ _ hR hp
    · replace hp := gif_f hp c
      intro o89 ho89
      rw [hR.ref 43 (by decide)] at ho89
      subst ho89
      intro o90 ho90
      rw [hR.ref 42 (by decide)] at ho90
      subst ho90
      refine ⟨arr 42, rfl, ?_⟩
      obtain ⟨hv, hp⟩ := gix_some hp
      refine ⟨by rw [hR.len 42 (by first | decide | assumption)]; exact hv, ?_⟩
      refine ⟨fun c => ?_, fun c => ?_⟩
      · replace hp := gif_f hp c
        intro o94 ho94
        rw [hR.ref 43 (by decide)] at ho94
        subst ho94
        refine ⟨arr 43, rfl, ?_⟩
        obtain ⟨hv, hp⟩ := gix_some hp
        refine ⟨by rw [hR.len 43 (by first | decide | assumption)]; exact hv, ?_⟩
        exact gq_X12_recall_79 hq ih _ _ _ _ _ _ hR hp
      · replace hp := gif_t hp c
        exact gq_X12_recall_79 hq ih _ _ _ _ _ _ hR hp
set_option maxRecDepth 100000 in
set_option maxHeartbeats 1000000 in
theorem gq_X12_recall_29 {a0 : Nat} {arr : Nat → Nat} {r : Int32} {w' : MS} {Q : Int32 → St → Prop} (hq : ∀ (s : St) (x : Int32), RF a0 arr s → gret x (absM a0 arr s) = some (r, w') → Q x s) : ∀ (x1 : Int32) (xs1 : Int32) (σ : St), RF a0 arr σ → g_X12_recall_29 x1 xs1 (absM a0 arr σ) = some (r, w') → w_X12_recall_29 Q  a0 x1 a0 xs1 σ := by
  intro x1 xs1 σ hR hp
  unfold g_X12_recall_29 at hp
  unfold w_X12_recall_29
  obtain ⟨x58, w59, he, hp⟩ := gb_some hp
  refine gq_X12_holds hR he (fun s59 hR hw => ?_)
  subst hw
  clear he
  refine ⟨fun c => ?_, fun c => ?_⟩
  · replace hp := gif_f hp c
    intro o61 ho61
    rw [hR.ref 18 (by decide)] at ho61
    subst ho61
    refine ⟨arr 18, rfl, ?_⟩
    obtain ⟨hv, hp⟩ := gix_some hp
    refine ⟨by rw [hR.len 18 (by first | decide | assumption)]; exact hv, ?_⟩
    intro s64 hs64
    have h2 := abs_setA hR 18 (by first | decide | assumption) hs64
    replace hR := hR.setA hs64
    replace hp := gst_up hp h2
    clear h2 hs64
    refine ⟨FU, ?_⟩
    exact gq_X12_recall_46 hq FU _ _ _ hR hp
  · replace hp := gif_t hp c
    exact hq _ _ hR hp
set_option maxRecDepth 100000 in
set_option maxHeartbeats 1000000 in
theorem gq_X12_recall {a0 : Nat} {arr : Nat → Nat} {σ : St} {x1 : Int32} (hR : RF a0 arr σ) {r : Int32} {w' : MS} (hp : g_X12_recall x1 (absM a0 arr σ) = some (r, w')) {Q : Int32 → St → Prop} (hq : ∀ (s : St), RF a0 arr s → absM a0 arr s = w' → Q r s) : w_X12_recall a0 x1 σ Q := by
  replace hq : ∀ (s : St) (x : Int32), RF a0 arr s → gret x (absM a0 arr s) = some (r, w') → Q x s := fun s x hR e => by obtain ⟨rfl, hw⟩ := gret_some e; exact hq s hR hw
  unfold g_X12_recall at hp
  unfold w_X12_recall
  obtain ⟨x51, w52, he, hp⟩ := gb_some hp
  refine gq_X12_isLot hR he (fun s52 hR hw => ?_)
  subst hw
  clear he
  replace hp := grd_some hp
  refine ⟨fun c => ?_, fun c => ?_⟩
  · replace hp := gif_f hp c
    intro o54 ho54
    rw [hR.ref 18 (by decide)] at ho54
    subst ho54
    refine ⟨arr 18, rfl, ?_⟩
    obtain ⟨hv, hp⟩ := gix_some hp
    refine ⟨by rw [hR.len 18 (by first | decide | assumption)]; exact hv, ?_⟩
    refine ⟨fun c => ?_, fun c => ?_⟩
    · replace hp := gif_t hp c
      exact gq_X12_recall_29 hq _ _ _ hR hp
    · replace hp := gif_f hp c
      exact gq_X12_recall_29 hq _ _ _ hR hp
  · replace hp := gif_t hp c
    exact gq_X12_recall_29 hq _ _ _ hR hp
set_option maxRecDepth 100000 in
set_option maxHeartbeats 1000000 in
theorem gq_X12_receive_58 {a0 : Nat} {arr : Nat → Nat} {r : Int32} {w' : MS} {Q : Int32 → St → Prop} (hq : ∀ (s : St) (x : Int32), RF a0 arr s → gret x (absM a0 arr s) = some (r, w') → Q x s) : ∀ (x1 : Int32) (x2 : Int32) (x3 : Int32) (xs1 : Int32) (σ : St), RF a0 arr σ → g_X12_receive_58 x1 x2 x3 xs1 (absM a0 arr σ) = some (r, w') → w_X12_receive_58 Q  a0 x1 x2 x3 a0 xs1 σ := by
  intro x1 x2 x3 xs1 σ hR hp
  unfold g_X12_receive_58 at hp
  unfold w_X12_receive_58
  obtain ⟨x62, w63, he, hp⟩ := gb_some hp
  refine gq_X12_holds hR he (fun s63 hR hw => ?_)
  subst hw
  clear he
  replace hp := grd_some hp
  refine ⟨fun c => ?_, fun c => ?_⟩
  · replace hp := gif_f hp c
    intro o65 ho65
    rw [hR.ref 26 (by decide)] at ho65
    subst ho65
    intro x66 hx66
    obtain ⟨yx66, ex66, hp⟩ := gbo_some hp
    obtain rfl : yx66 = x66 := ex66.trans hx66.symm
    refine ⟨arr 26, rfl, ?_⟩
    obtain ⟨hv, hp⟩ := gix_some hp
    refine ⟨by rw [hR.len 26 (by first | decide | assumption)]; exact hv, ?_⟩
    obtain ⟨hv, hp⟩ := gix_some hp
    refine ⟨by rw [hR.len 26 (by first | decide | assumption)]; exact hv, ?_⟩
    intro s70 hs70
    have h2 := abs_setA hR 26 (by first | decide | assumption) hs70
    replace hR := hR.setA hs70
    replace hp := gst_up hp h2
    clear h2 hs70
    obtain ⟨u72, w72, he, hp⟩ := gb_some hp
    refine gq_X12_books hR he (fun s72 hR hw => ?_)
    subst hw
    clear he
    replace hp := grd_some hp
    intro s73 hs73
    have h2 := abs_setI (arr := arr) 2 (by decide) hs73
    replace hR := hR.setI hs73
    replace hp := gst_up hp h2
    clear h2 hs73
    replace hp := grd_some hp
    intro o74 ho74
    rw [hR.ref 19 (by decide)] at ho74
    subst ho74
    refine ⟨arr 19, rfl, ?_⟩
    obtain ⟨hv, hp⟩ := gix_some hp
    refine ⟨by rw [hR.len 19 (by first | decide | assumption)]; exact hv, ?_⟩
    exact hq _ _ hR hp
  · replace hp := gif_t hp c
    exact hq _ _ hR hp
set_option maxRecDepth 100000 in
set_option maxHeartbeats 1000000 in
theorem gq_X12_receive_21 {a0 : Nat} {arr : Nat → Nat} {r : Int32} {w' : MS} {Q : Int32 → St → Prop} (hq : ∀ (s : St) (x : Int32), RF a0 arr s → gret x (absM a0 arr s) = some (r, w') → Q x s) : ∀ (x1 : Int32) (x2 : Int32) (x3 : Int32) (xs0 : Int32) (σ : St), RF a0 arr σ → g_X12_receive_21 x1 x2 x3 xs0 (absM a0 arr σ) = some (r, w') → w_X12_receive_21 Q  a0 x1 x2 x3 xs0 σ := by
  intro x1 x2 x3 xs0 σ hR hp
  unfold g_X12_receive_21 at hp
  unfold w_X12_receive_21
  refine ⟨fun c => ?_, fun c => ?_⟩
  · replace hp := gif_f hp c
    obtain ⟨x55, w56, he, hp⟩ := gb_some hp
    refine gq_X12_arePieces hR he (fun s56 hR hw => ?_)
    subst hw
    clear he
    replace hp := grd_some hp
    refine ⟨fun c => ?_, fun c => ?_⟩
    · replace hp := gif_f hp c
      intro o58 ho58
      rw [hR.ref 25 (by decide)] at ho58
      subst ho58
      refine ⟨arr 25, rfl, ?_⟩
      obtain ⟨hv, hp⟩ := gix_some hp
      refine ⟨by rw [hR.len 25 (by first | decide | assumption)]; exact hv, ?_⟩
      refine ⟨fun c => ?_, fun c => ?_⟩
      · replace hp := gif_t hp c
        exact gq_X12_receive_58 hq _ _ _ _ _ hR hp
      · replace hp := gif_f hp c
        exact gq_X12_receive_58 hq _ _ _ _ _ hR hp
    · replace hp := gif_t hp c
      exact gq_X12_receive_58 hq _ _ _ _ _ hR hp
  · replace hp := gif_t hp c
    exact gq_X12_receive_58 hq _ _ _ _ _ hR hp
set_option maxRecDepth 100000 in
set_option maxHeartbeats 1000000 in
theorem gq_X12_receive_20 {a0 : Nat} {arr : Nat → Nat} {r : Int32} {w' : MS} {Q : Int32 → St → Prop} (hq : ∀ (s : St) (x : Int32), RF a0 arr s → gret x (absM a0 arr s) = some (r, w') → Q x s) : ∀ (x1 : Int32) (x2 : Int32) (x3 : Int32) (σ : St), RF a0 arr σ → g_X12_receive_20 x1 x2 x3 (absM a0 arr σ) = some (r, w') → w_X12_receive_20 Q  a0 x1 x2 x3 σ := by
  intro x1 x2 x3 σ hR hp
  unfold g_X12_receive_20 at hp
  unfold w_X12_receive_20
  exact gq_X12_receive_21 hq _ _ _ _ _ hR hp
set_option maxRecDepth 100000 in
set_option maxHeartbeats 1000000 in
theorem gq_X12_receive {a0 : Nat} {arr : Nat → Nat} {σ : St} {x1 : Int32} {x2 : Int32} {x3 : Int32} (hR : RF a0 arr σ) {r : Int32} {w' : MS} (hp : g_X12_receive x1 x2 x3 (absM a0 arr σ) = some (r, w')) {Q : Int32 → St → Prop} (hq : ∀ (s : St), RF a0 arr s → absM a0 arr s = w' → Q r s) : w_X12_receive a0 x1 x2 x3 σ Q := by
  replace hq : ∀ (s : St) (x : Int32), RF a0 arr s → gret x (absM a0 arr s) = some (r, w') → Q x s := fun s x hR e => by obtain ⟨rfl, hw⟩ := gret_some e; exact hq s hR hw
  unfold g_X12_receive at hp
  unfold w_X12_receive
  obtain ⟨x51, w52, he, hp⟩ := gb_some hp
  refine gq_X12_isNotice hR he (fun s52 hR hw => ?_)
  subst hw
  clear he
  refine ⟨fun c => ?_, fun c => ?_⟩
  · replace hp := gif_t hp c
    exact gq_X12_receive_20 hq _ _ _ _ hR hp
  · replace hp := gif_f hp c
    obtain ⟨x77, w78, he, hp⟩ := gb_some hp
    refine gq_X12_isLot hR he (fun s78 hR hw => ?_)
    subst hw
    clear he
    refine ⟨fun c => ?_, fun c => ?_⟩
    · replace hp := gif_t hp c
      exact gq_X12_receive_20 hq _ _ _ _ hR hp
    · replace hp := gif_f hp c
      exact gq_X12_receive_21 hq _ _ _ _ _ hR hp
set_option maxRecDepth 100000 in
set_option maxHeartbeats 1000000 in
theorem gq_X12_received_22 {a0 : Nat} {arr : Nat → Nat} {r : Int32} {w' : MS} {Q : Int32 → St → Prop} (hq : ∀ (s : St) (x : Int32), RF a0 arr s → gret x (absM a0 arr s) = some (r, w') → Q x s) : ∀ (x1 : Int32) (x2 : Int32) (xs1 : Int32) (σ : St), RF a0 arr σ → g_X12_received_22 x1 x2 xs1 (absM a0 arr σ) = some (r, w') → w_X12_received_22 Q  a0 x1 x2 a0 xs1 σ := by
  intro x1 x2 xs1 σ hR hp
  unfold g_X12_received_22 at hp
  unfold w_X12_received_22
  obtain ⟨x54, w55, he, hp⟩ := gb_some hp
  refine gq_X12_holds hR he (fun s55 hR hw => ?_)
  subst hw
  clear he
  replace hp := grd_some hp
  refine ⟨fun c => ?_, fun c => ?_⟩
  · replace hp := gif_t hp c
    exact hq _ _ hR hp
  · replace hp := gif_f hp c
    intro o57 ho57
    rw [hR.ref 26 (by decide)] at ho57
    subst ho57
    refine ⟨arr 26, rfl, ?_⟩
    obtain ⟨hv, hp⟩ := gix_some hp
    refine ⟨by rw [hR.len 26 (by first | decide | assumption)]; exact hv, ?_⟩
    exact hq _ _ hR hp
set_option maxRecDepth 100000 in
set_option maxHeartbeats 1000000 in
theorem gq_X12_received_21 {a0 : Nat} {arr : Nat → Nat} {r : Int32} {w' : MS} {Q : Int32 → St → Prop} (hq : ∀ (s : St) (x : Int32), RF a0 arr s → gret x (absM a0 arr s) = some (r, w') → Q x s) : ∀ (x1 : Int32) (x2 : Int32) (σ : St), RF a0 arr σ → g_X12_received_21 x1 x2 (absM a0 arr σ) = some (r, w') → w_X12_received_21 Q  a0 x1 x2 a0 σ := by
  intro x1 x2 σ hR hp
  unfold g_X12_received_21 at hp
  unfold w_X12_received_21
  exact gq_X12_received_22 hq _ _ _ _ hR hp
set_option maxRecDepth 100000 in
set_option maxHeartbeats 1000000 in
theorem gq_X12_received {a0 : Nat} {arr : Nat → Nat} {σ : St} {x1 : Int32} {x2 : Int32} (hR : RF a0 arr σ) {r : Int32} {w' : MS} (hp : g_X12_received x1 x2 (absM a0 arr σ) = some (r, w')) {Q : Int32 → St → Prop} (hq : ∀ (s : St), RF a0 arr s → absM a0 arr s = w' → Q r s) : w_X12_received a0 x1 x2 σ Q := by
  replace hq : ∀ (s : St) (x : Int32), RF a0 arr s → gret x (absM a0 arr s) = some (r, w') → Q x s := fun s x hR e => by obtain ⟨rfl, hw⟩ := gret_some e; exact hq s hR hw
  unfold g_X12_received at hp
  unfold w_X12_received
  obtain ⟨x51, w52, he, hp⟩ := gb_some hp
  refine gq_X12_isNotice hR he (fun s52 hR hw => ?_)
  subst hw
  clear he
  refine ⟨fun c => ?_, fun c => ?_⟩
  · replace hp := gif_t hp c
    exact gq_X12_received_21 hq _ _ _ hR hp
  · replace hp := gif_f hp c
    obtain ⟨x60, w61, he, hp⟩ := gb_some hp
    refine gq_X12_isLot hR he (fun s61 hR hw => ?_)
    subst hw
    clear he
    refine ⟨fun c => ?_, fun c => ?_⟩
    · replace hp := gif_t hp c
      exact gq_X12_received_21 hq _ _ _ hR hp
    · replace hp := gif_f hp c
      exact gq_X12_received_22 hq _ _ _ _ hR hp
set_option maxRecDepth 100000 in
set_option maxHeartbeats 1000000 in
theorem gq_X12_roomLeft_15 {a0 : Nat} {arr : Nat → Nat} {r : Int32} {w' : MS} {Q : Int32 → St → Prop} (hq : ∀ (s : St) (x : Int32), RF a0 arr s → gret x (absM a0 arr s) = some (r, w') → Q x s) : ∀ (f : Nat) (x1 : Int32) (x2 : Int32) (x3 : Int32) (σ : St), RF a0 arr σ → g_X12_roomLeft_15 f x1 x2 x3 (absM a0 arr σ) = some (r, w') → w_X12_roomLeft_15 Q  f a0 x1 x2 x3 σ := by
  intro f
  induction f with
  | zero => intro x1 x2 x3 σ hR hp; cases hp
  | succ f ih =>
    intro x1 x2 x3 σ hR hp
    unfold g_X12_roomLeft_15 at hp
    unfold w_X12_roomLeft_15
    replace hp := grd_some hp
    refine ⟨fun c => ?_, fun c => ?_⟩
    · replace hp := gif_t hp c
      exact hq _ _ hR hp
    · replace hp := gif_f hp c
      intro o58 ho58
      rw [hR.ref 19 (by decide)] at ho58
      subst ho58
      refine ⟨arr 19, rfl, ?_⟩
      obtain ⟨hv, hp⟩ := gix_some hp
      refine ⟨by rw [hR.len 19 (by first | decide | assumption)]; exact hv, ?_⟩
      intro o61 ho61
      rw [hR.ref 10 (by decide)] at ho61
      subst ho61
      intro o62 ho62
      rw [hR.ref 16 (by decide)] at ho62
      subst ho62
      refine ⟨arr 16, rfl, ?_⟩
      obtain ⟨hv, hp⟩ := gix_some hp
      refine ⟨by rw [hR.len 16 (by first | decide | assumption)]; exact hv, ?_⟩
      refine ⟨arr 10, rfl, ?_⟩
      obtain ⟨hv, hp⟩ := gix_some hp
      refine ⟨by rw [hR.len 10 (by first | decide | assumption)]; exact hv, ?_⟩
      intro x67 hx67
      obtain ⟨yx67, ex67, hp⟩ := gbo_some hp
      obtain rfl : yx67 = x67 := ex67.trans hx67.symm
      exact ih _ _ _ _ hR hp
set_option maxRecDepth 100000 in
set_option maxHeartbeats 1000000 in
theorem gq_X12_roomLeft {a0 : Nat} {arr : Nat → Nat} {σ : St} {x1 : Int32} (hR : RF a0 arr σ) {r : Int32} {w' : MS} (hp : g_X12_roomLeft x1 (absM a0 arr σ) = some (r, w')) {Q : Int32 → St → Prop} (hq : ∀ (s : St), RF a0 arr s → absM a0 arr s = w' → Q r s) : w_X12_roomLeft a0 x1 σ Q := by
  replace hq : ∀ (s : St) (x : Int32), RF a0 arr s → gret x (absM a0 arr s) = some (r, w') → Q x s := fun s x hR e => by obtain ⟨rfl, hw⟩ := gret_some e; exact hq s hR hw
  unfold g_X12_roomLeft at hp
  unfold w_X12_roomLeft
  replace hp := grd_some hp
  intro o51 ho51
  rw [hR.ref 5 (by decide)] at ho51
  subst ho51
  refine ⟨arr 5, rfl, ?_⟩
  obtain ⟨hv, hp⟩ := gix_some hp
  refine ⟨by rw [hR.len 5 (by first | decide | assumption)]; exact hv, ?_⟩
  obtain ⟨x54, w55, he, hp⟩ := gb_some hp
  refine gq_X12_roomHeld hR he (fun s55 hR hw => ?_)
  subst hw
  clear he
  intro x56 hx56
  obtain ⟨yx56, ex56, hp⟩ := gbo_some hp
  obtain rfl : yx56 = x56 := ex56.trans hx56.symm
  refine ⟨FU, ?_⟩
  exact gq_X12_roomLeft_15 hq FU _ _ _ _ hR hp
set_option maxRecDepth 100000 in
set_option maxHeartbeats 1000000 in
theorem gq_X12_send_245 {a0 : Nat} {arr : Nat → Nat} {r : Int32} {w' : MS} {Q : Int32 → St → Prop} (hq : ∀ (s : St) (x : Int32), RF a0 arr s → gret x (absM a0 arr s) = some (r, w') → Q x s) : ∀ (f : Nat) (x1 : Int32) (x3 : Int32) (x4 : Int32) (σ : St), RF a0 arr σ → g_X12_send_245 f x1 x3 x4 (absM a0 arr σ) = some (r, w') → w_X12_send_245 Q  f a0 x1 x3 x4 σ := by
  intro f
  induction f with
  | zero => intro x1 x3 x4 σ hR hp; cases hp
  | succ f ih =>
    intro x1 x3 x4 σ hR hp
    unfold g_X12_send_245 at hp
    unfold w_X12_send_245
    replace hp := grd_some hp
    refine ⟨fun c => ?_, fun c => ?_⟩
    · replace hp := gif_t hp c
      obtain ⟨u83, w83, he, hp⟩ := gb_some hp
      refine gq_X12_tidies hR he (fun s83 hR hw => ?_)
      subst hw
      clear he
      exact hq _ _ hR hp
    · replace hp := gif_f hp c
      obtain ⟨x84, w85, he, hp⟩ := gb_some hp
      refine gq_X12_isOn hR he (fun s85 hR hw => ?_)
      subst hw
      clear he
      replace hp := grd_some hp
      refine ⟨fun c => ?_, fun c => ?_⟩
      · replace hp := gif_t hp c
        exact ih _ _ _ _ hR hp
      · replace hp := gif_f hp c
        intro o87 ho87
        rw [hR.ref 46 (by decide)] at ho87
        subst ho87
        refine ⟨arr 46, rfl, ?_⟩
        obtain ⟨hv, hp⟩ := gix_some hp
        refine ⟨by rw [hR.len 46 (by first | decide | assumption)]; exact hv, ?_⟩
        refine ⟨fun c => ?_, fun c => ?_⟩
        · replace hp := gif_f hp c
          exact ih _ _ _ _ hR hp
        · replace hp := gif_t hp c
          intro o91 ho91
          rw [hR.ref 50 (by decide)] at ho91
          subst ho91
          refine ⟨arr 50, rfl, ?_⟩
          obtain ⟨hv, hp⟩ := gix_some hp
          refine ⟨by rw [hR.len 50 (by first | decide | assumption)]; exact hv, ?_⟩
          refine ⟨fun c => ?_, fun c => ?_⟩
          · replace hp := gif_f hp c
            exact ih _ _ _ _ hR hp
          · replace hp := gif_t hp c
            obtain ⟨u96, w96, he, hp⟩ := gb_some hp
            refine gq_X12_ends hR he (fun s96 hR hw => ?_)
            subst hw
            clear he
            exact ih _ _ _ _ hR hp
set_option maxRecDepth 100000 in
set_option maxHeartbeats 1000000 in
theorem gq_X12_send_235 {a0 : Nat} {arr : Nat → Nat} {r : Int32} {w' : MS} {Q : Int32 → St → Prop} (hq : ∀ (s : St) (x : Int32), RF a0 arr s → gret x (absM a0 arr s) = some (r, w') → Q x s) {K196 : Nat → Int32 → Int32 → Int32 → St → Prop} {LK196 : Int32 → Int32 → Int32 → GM (Int32)} (hK196 : ∀ (y1 : Int32) (y2 : Int32) (y3 : Int32) (y4 : St), RF a0 arr y4 → LK196 y1 y2 y3 (absM a0 arr y4) = some (r, w') → K196 a0 y1 y2 y3 y4) : ∀ (x1 : Int32) (x3 : Int32) (x4 : Int32) (os0 : Nat) (xs1 : Int32) (xs2 : Int32) (σ : St), RF a0 arr σ → g_X12_send_235 LK196 x1 x3 x4 os0 xs1 xs2 (absM a0 arr σ) = some (r, w') → w_X12_send_235 Q K196 a0 x1 x3 x4 (some (arr os0)) xs1 xs2 σ := by
  intro x1 x3 x4 os0 xs1 xs2 σ hR hp
  unfold g_X12_send_235 at hp
  unfold w_X12_send_235
  obtain ⟨hAos0, hp⟩ := gmd_some hp
  refine ⟨arr os0, rfl, ?_⟩
  obtain ⟨hv, hp⟩ := gix_some hp
  refine ⟨by rw [hR.len os0 (by first | decide | assumption)]; exact hv, ?_⟩
  intro s108 hs108
  have h2 := abs_setA hR os0 (by first | decide | assumption) hs108
  replace hR := hR.setA hs108
  replace hp := gst_up hp h2
  clear h2 hs108
  exact hK196 _ _ _ _ hR hp
set_option maxRecDepth 100000 in
set_option maxHeartbeats 1000000 in
theorem gq_X12_send_196 {a0 : Nat} {arr : Nat → Nat} {r : Int32} {w' : MS} {Q : Int32 → St → Prop} (hq : ∀ (s : St) (x : Int32), RF a0 arr s → gret x (absM a0 arr s) = some (r, w') → Q x s) : ∀ (f : Nat) (x1 : Int32) (x3 : Int32) (x4 : Int32) (σ : St), RF a0 arr σ → g_X12_send_196 f x1 x3 x4 (absM a0 arr σ) = some (r, w') → w_X12_send_196 Q  f a0 x1 x3 x4 σ := by
  intro f
  induction f with
  | zero => intro x1 x3 x4 σ hR hp; cases hp
  | succ f ih =>
    intro x1 x3 x4 σ hR hp
    unfold g_X12_send_196 at hp
    unfold w_X12_send_196
    replace hp := grd_some hp
    refine ⟨fun c => ?_, fun c => ?_⟩
    · replace hp := gif_t hp c
      refine ⟨FU, ?_⟩
      exact gq_X12_send_245 hq FU _ _ _ _ hR hp
    · replace hp := gif_f hp c
      intro o98 ho98
      rw [hR.ref 43 (by decide)] at ho98
      subst ho98
      intro o99 ho99
      rw [hR.ref 40 (by decide)] at ho99
      subst ho99
      refine ⟨arr 40, rfl, ?_⟩
      obtain ⟨hv, hp⟩ := gix_some hp
      refine ⟨by rw [hR.len 40 (by first | decide | assumption)]; exact hv, ?_⟩
      refine ⟨fun c => ?_, fun c => ?_⟩
      · replace hp := gif_f hp c
        intro o103 ho103
        rw [hR.ref 43 (by decide)] at ho103
        subst ho103
        refine ⟨arr 43, rfl, ?_⟩
        obtain ⟨hv, hp⟩ := gix_some hp
        refine ⟨by rw [hR.len 43 (by first | decide | assumption)]; exact hv, ?_⟩
        exact gq_X12_send_235 hq ih _ _ _ _ _ _ _ hR hp
      · replace hp := gif_t hp c
        exact gq_X12_send_235 hq ih _ _ _ _ _ _ _ hR hp
set_option maxRecDepth 100000 in
set_option maxHeartbeats 1000000 in
theorem gq_X12_send_122 {a0 : Nat} {arr : Nat → Nat} {r : Int32} {w' : MS} {Q : Int32 → St → Prop} (hq : ∀ (s : St) (x : Int32), RF a0 arr s → gret x (absM a0 arr s) = some (r, w') → Q x s) : ∀ (f : Nat) (x1 : Int32) (x3 : Int32) (x4 : Int32) (σ : St), RF a0 arr σ → g_X12_send_122 f x1 x3 x4 (absM a0 arr σ) = some (r, w') → w_X12_send_122 Q  f a0 x1 x3 x4 σ := by
  intro f
  induction f with
  | zero => intro x1 x3 x4 σ hR hp; cases hp
  | succ f ih =>
    intro x1 x3 x4 σ hR hp
    unfold g_X12_send_122 at hp
    unfold w_X12_send_122
    replace hp := grd_some hp
    refine ⟨fun c => ?_, fun c => ?_⟩
    · replace hp := gif_t hp c
      intro o76 ho76
      rw [hR.ref 32 (by decide)] at ho76
      subst ho76
      refine ⟨arr 32, rfl, ?_⟩
      obtain ⟨hv, hp⟩ := gix_some hp
      refine ⟨by rw [hR.len 32 (by first | decide | assumption)]; exact hv, ?_⟩
      intro s79 hs79
      have h2 := abs_setA hR 32 (by first | decide | assumption) hs79
      replace hR := hR.setA hs79
      replace hp := gst_up hp h2
      clear h2 hs79
      refine ⟨FU, ?_⟩
      exact gq_X12_send_196 hq FU _ _ _ _ hR hp
    · replace hp := gif_f hp c
      intro o110 ho110
      rw [hR.ref 19 (by decide)] at ho110
      subst ho110
      refine ⟨arr 19, rfl, ?_⟩
      obtain ⟨hv, hp⟩ := gix_some hp
      refine ⟨by rw [hR.len 19 (by first | decide | assumption)]; exact hv, ?_⟩
      intro x113 hx113
      obtain ⟨yx113, ex113, hp⟩ := gbo_some hp
      obtain rfl : yx113 = x113 := ex113.trans hx113.symm
      intro o114 ho114
      rw [hR.ref 33 (by decide)] at ho114
      subst ho114
      refine ⟨arr 33, rfl, ?_⟩
      obtain ⟨hv, hp⟩ := gix_some hp
      refine ⟨by rw [hR.len 33 (by first | decide | assumption)]; exact hv, ?_⟩
      intro s117 hs117
      have h2 := abs_setA hR 33 (by first | decide | assumption) hs117
      replace hR := hR.setA hs117
      replace hp := gst_up hp h2
      clear h2 hs117
      obtain ⟨u119, w119, he, hp⟩ := gb_some hp
      refine gq_X12_books hR he (fun s119 hR hw => ?_)
      subst hw
      clear he
      intro x120 hx120
      obtain ⟨yx120, ex120, hp⟩ := gbo_some hp
      obtain rfl : yx120 = x120 := ex120.trans hx120.symm
      exact ih _ _ _ _ hR hp
set_option maxRecDepth 100000 in
set_option maxHeartbeats 1000000 in
theorem gq_X12_send_70 {a0 : Nat} {arr : Nat → Nat} {r : Int32} {w' : MS} {Q : Int32 → St → Prop} (hq : ∀ (s : St) (x : Int32), RF a0 arr s → gret x (absM a0 arr s) = some (r, w') → Q x s) : ∀ (f : Nat) (x1 : Int32) (x3 : Int32) (x4 : Int32) (σ : St), RF a0 arr σ → g_X12_send_70 f x1 x3 x4 (absM a0 arr σ) = some (r, w') → w_X12_send_70 Q  f a0 x1 x3 x4 σ := by
  intro f
  induction f with
  | zero => intro x1 x3 x4 σ hR hp; cases hp
  | succ f ih =>
    intro x1 x3 x4 σ hR hp
    unfold g_X12_send_70 at hp
    unfold w_X12_send_70
    replace hp := grd_some hp
    intro o71 ho71
    rw [hR.ref 35 (by decide)] at ho71
    subst ho71
    refine ⟨arr 35, rfl, ?_⟩
    obtain ⟨hv, hp⟩ := gix_some hp
    refine ⟨by rw [hR.len 35 (by first | decide | assumption)]; exact hv, ?_⟩
    refine ⟨fun c => ?_, fun c => ?_⟩
    · replace hp := gif_t hp c
      refine ⟨FU, ?_⟩
      exact gq_X12_send_122 hq FU _ _ _ _ hR hp
    · replace hp := gif_f hp c
      intro o122 ho122
      rw [hR.ref 34 (by decide)] at ho122
      subst ho122
      intro o123 ho123
      rw [hR.ref 62 (by decide)] at ho123
      subst ho123
      refine ⟨arr 62, rfl, ?_⟩
      obtain ⟨hv, hp⟩ := gix_some hp
      refine ⟨by rw [hR.len 62 (by first | decide | assumption)]; exact hv, ?_⟩
      intro o126 ho126
      rw [hR.ref 63 (by decide)] at ho126
      subst ho126
      refine ⟨arr 63, rfl, ?_⟩
      obtain ⟨hv, hp⟩ := gix_some hp
      refine ⟨by rw [hR.len 63 (by first | decide | assumption)]; exact hv, ?_⟩
      refine ⟨arr 34, rfl, ?_⟩
      obtain ⟨hv, hp⟩ := gix_some hp
      refine ⟨by rw [hR.len 34 (by first | decide | assumption)]; exact hv, ?_⟩
      intro s131 hs131
      have h2 := abs_setA hR 34 (by first | decide | assumption) hs131
      replace hR := hR.setA hs131
      replace hp := gst_up hp h2
      clear h2 hs131
      exact ih _ _ _ _ hR hp
set_option maxRecDepth 100000 in
set_option maxHeartbeats 1000000 in
theorem gq_X12_send_29 {a0 : Nat} {arr : Nat → Nat} {r : Int32} {w' : MS} {Q : Int32 → St → Prop} (hq : ∀ (s : St) (x : Int32), RF a0 arr s → gret x (absM a0 arr s) = some (r, w') → Q x s) : ∀ (x1 : Int32) (xs1 : Int32) (σ : St), RF a0 arr σ → g_X12_send_29 x1 xs1 (absM a0 arr σ) = some (r, w') → w_X12_send_29 Q  a0 x1 a0 xs1 σ := by
  intro x1 xs1 σ hR hp
  unfold g_X12_send_29 at hp
  unfold w_X12_send_29
  obtain ⟨x58, w59, he, hp⟩ := gb_some hp
  refine gq_X12_holds hR he (fun s59 hR hw => ?_)
  subst hw
  clear he
  refine ⟨fun c => ?_, fun c => ?_⟩
  · replace hp := gif_f hp c
    intro o61 ho61
    rw [hR.ref 35 (by decide)] at ho61
    subst ho61
    obtain ⟨x62, w63, he, hp⟩ := gb_some hp
    refine gq_X12_packs hR he (fun s63 hR hw => ?_)
    subst hw
    clear he
    refine ⟨arr 35, rfl, ?_⟩
    obtain ⟨hv, hp⟩ := gix_some hp
    refine ⟨by rw [hR.len 35 (by first | decide | assumption)]; exact hv, ?_⟩
    intro s66 hs66
    have h2 := abs_setA hR 35 (by first | decide | assumption) hs66
    replace hR := hR.setA hs66
    replace hp := gst_up hp h2
    clear h2 hs66
    replace hp := grd_some hp
    intro o67 ho67
    rw [hR.ref 35 (by decide)] at ho67
    subst ho67
    refine ⟨arr 35, rfl, ?_⟩
    obtain ⟨hv, hp⟩ := gix_some hp
    refine ⟨by rw [hR.len 35 (by first | decide | assumption)]; exact hv, ?_⟩
    intro s70 hs70
    have h2 := abs_setI (arr := arr) 2 (by decide) hs70
    replace hR := hR.setI hs70
    replace hp := gst_up hp h2
    clear h2 hs70
    refine ⟨FU, ?_⟩
    exact gq_X12_send_70 hq FU _ _ _ _ hR hp
  · replace hp := gif_t hp c
    exact hq _ _ hR hp
set_option maxRecDepth 100000 in
set_option maxHeartbeats 1000000 in
theorem gq_X12_send {a0 : Nat} {arr : Nat → Nat} {σ : St} {x1 : Int32} (hR : RF a0 arr σ) {r : Int32} {w' : MS} (hp : g_X12_send x1 (absM a0 arr σ) = some (r, w')) {Q : Int32 → St → Prop} (hq : ∀ (s : St), RF a0 arr s → absM a0 arr s = w' → Q r s) : w_X12_send a0 x1 σ Q := by
  replace hq : ∀ (s : St) (x : Int32), RF a0 arr s → gret x (absM a0 arr s) = some (r, w') → Q x s := fun s x hR e => by obtain ⟨rfl, hw⟩ := gret_some e; exact hq s hR hw
  unfold g_X12_send at hp
  unfold w_X12_send
  obtain ⟨x51, w52, he, hp⟩ := gb_some hp
  refine gq_X12_isOrder hR he (fun s52 hR hw => ?_)
  subst hw
  clear he
  replace hp := grd_some hp
  refine ⟨fun c => ?_, fun c => ?_⟩
  · replace hp := gif_f hp c
    intro o54 ho54
    rw [hR.ref 32 (by decide)] at ho54
    subst ho54
    refine ⟨arr 32, rfl, ?_⟩
    obtain ⟨hv, hp⟩ := gix_some hp
    refine ⟨by rw [hR.len 32 (by first | decide | assumption)]; exact hv, ?_⟩
    refine ⟨fun c => ?_, fun c => ?_⟩
    · replace hp := gif_t hp c
      exact gq_X12_send_29 hq _ _ _ hR hp
    · replace hp := gif_f hp c
      exact gq_X12_send_29 hq _ _ _ hR hp
  · replace hp := gif_t hp c
    exact gq_X12_send_29 hq _ _ _ hR hp
set_option maxRecDepth 100000 in
set_option maxHeartbeats 1000000 in
theorem gq_X12_sent_22 {a0 : Nat} {arr : Nat → Nat} {r : Int32} {w' : MS} {Q : Int32 → St → Prop} (hq : ∀ (s : St) (x : Int32), RF a0 arr s → gret x (absM a0 arr s) = some (r, w') → Q x s) : ∀ (x1 : Int32) (x2 : Int32) (xs1 : Int32) (σ : St), RF a0 arr σ → g_X12_sent_22 x1 x2 xs1 (absM a0 arr σ) = some (r, w') → w_X12_sent_22 Q  a0 x1 x2 a0 xs1 σ := by
  intro x1 x2 xs1 σ hR hp
  unfold g_X12_sent_22 at hp
  unfold w_X12_sent_22
  obtain ⟨x54, w55, he, hp⟩ := gb_some hp
  refine gq_X12_holds hR he (fun s55 hR hw => ?_)
  subst hw
  clear he
  replace hp := grd_some hp
  refine ⟨fun c => ?_, fun c => ?_⟩
  · replace hp := gif_t hp c
    exact hq _ _ hR hp
  · replace hp := gif_f hp c
    intro o57 ho57
    rw [hR.ref 33 (by decide)] at ho57
    subst ho57
    refine ⟨arr 33, rfl, ?_⟩
    obtain ⟨hv, hp⟩ := gix_some hp
    refine ⟨by rw [hR.len 33 (by first | decide | assumption)]; exact hv, ?_⟩
    exact hq _ _ hR hp
set_option maxRecDepth 100000 in
set_option maxHeartbeats 1000000 in
theorem gq_X12_sent_21 {a0 : Nat} {arr : Nat → Nat} {r : Int32} {w' : MS} {Q : Int32 → St → Prop} (hq : ∀ (s : St) (x : Int32), RF a0 arr s → gret x (absM a0 arr s) = some (r, w') → Q x s) : ∀ (x1 : Int32) (x2 : Int32) (σ : St), RF a0 arr σ → g_X12_sent_21 x1 x2 (absM a0 arr σ) = some (r, w') → w_X12_sent_21 Q  a0 x1 x2 a0 σ := by
  intro x1 x2 σ hR hp
  unfold g_X12_sent_21 at hp
  unfold w_X12_sent_21
  exact gq_X12_sent_22 hq _ _ _ _ hR hp
set_option maxRecDepth 100000 in
set_option maxHeartbeats 1000000 in
theorem gq_X12_sent {a0 : Nat} {arr : Nat → Nat} {σ : St} {x1 : Int32} {x2 : Int32} (hR : RF a0 arr σ) {r : Int32} {w' : MS} (hp : g_X12_sent x1 x2 (absM a0 arr σ) = some (r, w')) {Q : Int32 → St → Prop} (hq : ∀ (s : St), RF a0 arr s → absM a0 arr s = w' → Q r s) : w_X12_sent a0 x1 x2 σ Q := by
  replace hq : ∀ (s : St) (x : Int32), RF a0 arr s → gret x (absM a0 arr s) = some (r, w') → Q x s := fun s x hR e => by obtain ⟨rfl, hw⟩ := gret_some e; exact hq s hR hw
  unfold g_X12_sent at hp
  unfold w_X12_sent
  obtain ⟨x51, w52, he, hp⟩ := gb_some hp
  refine gq_X12_isOrder hR he (fun s52 hR hw => ?_)
  subst hw
  clear he
  refine ⟨fun c => ?_, fun c => ?_⟩
  · replace hp := gif_t hp c
    exact gq_X12_sent_21 hq _ _ _ hR hp
  · replace hp := gif_f hp c
    obtain ⟨x60, w61, he, hp⟩ := gb_some hp
    refine gq_X12_isLot hR he (fun s61 hR hw => ?_)
    subst hw
    clear he
    refine ⟨fun c => ?_, fun c => ?_⟩
    · replace hp := gif_t hp c
      exact gq_X12_sent_21 hq _ _ _ hR hp
    · replace hp := gif_f hp c
      exact gq_X12_sent_22 hq _ _ _ _ hR hp
set_option maxRecDepth 100000 in
set_option maxHeartbeats 1000000 in
theorem gq_X12_shorts_206 {a0 : Nat} {arr : Nat → Nat} {r : Unit} {w' : MS} {Q : St → Prop} (hq : ∀ (s : St), RF a0 arr s → gret () (absM a0 arr s) = some (r, w') → Q s) : ∀ (f : Nat) (x1 : Int32) (x2 : Int32) (x4 : Int32) (x5 : Int32) (x6 : Int32) (σ : St), RF a0 arr σ → g_X12_shorts_206 f x1 x2 x4 x5 x6 (absM a0 arr σ) = some (r, w') → w_X12_shorts_206 Q  f a0 x1 x2 x4 x5 x6 σ := by
  intro f
  induction f with
  | zero => intro x1 x2 x4 x5 x6 σ hR hp; cases hp
  | succ f ih =>
    intro x1 x2 x4 x5 x6 σ hR hp
    unfold g_X12_shorts_206 at hp
    unfold w_X12_shorts_206
    replace hp := grd_some hp
    refine ⟨fun c => ?_, fun c => ?_⟩
    · replace hp := gif_t hp c
      exact hq _ hR hp
    · replace hp := gif_f hp c
      refine ⟨fun c => ?_, fun c => ?_⟩
      · replace hp := gif_t hp c
        exact ih _ _ _ _ _ _ hR hp
      · replace hp := gif_f hp c
        obtain ⟨x64, w65, he, hp⟩ := gb_some hp
        refine gq_X12_isOn hR he (fun s65 hR hw => ?_)
        subst hw
        clear he
        replace hp := grd_some hp
        refine ⟨fun c => ?_, fun c => ?_⟩
        · replace hp := gif_t hp c
          exact ih _ _ _ _ _ _ hR hp
        · replace hp := gif_f hp c
          intro o67 ho67
          rw [hR.ref 46 (by decide)] at ho67
          subst ho67
          refine ⟨arr 46, rfl, ?_⟩
          obtain ⟨hv, hp⟩ := gix_some hp
          refine ⟨by rw [hR.len 46 (by first | decide | assumption)]; exact hv, ?_⟩
          refine ⟨fun c => ?_, fun c => ?_⟩
          · replace hp := gif_f hp c
            exact ih _ _ _ _ _ _ hR hp
          · replace hp := gif_t hp c
            intro o71 ho71
            rw [hR.ref 48 (by decide)] at ho71
            subst ho71
            refine ⟨arr 48, rfl, ?_⟩
            obtain ⟨hv, hp⟩ := gix_some hp
            refine ⟨by rw [hR.len 48 (by first | decide | assumption)]; exact hv, ?_⟩
            refine ⟨fun c => ?_, fun c => ?_⟩
            · replace hp := gif_f hp c
              exact ih _ _ _ _ _ _ hR hp
            · replace hp := gif_t hp c
              intro o75 ho75
              rw [hR.ref 47 (by decide)] at ho75
              subst ho75
              refine ⟨arr 47, rfl, ?_⟩
              obtain ⟨hv, hp⟩ := gix_some hp
              refine ⟨by rw [hR.len 47 (by first | decide | assumption)]; exact hv, ?_⟩
              refine ⟨fun c => ?_, fun c => ?_⟩
              · replace hp := gif_f hp c
                exact ih _ _ _ _ _ _ hR hp
              · replace hp := gif_t hp c
                obtain ⟨x79, w80, he, hp⟩ := gb_some hp
                refine gq_X12_keeps hR he (fun s80 hR hw => ?_)
                subst hw
                clear he
                intro x81 hx81
                obtain ⟨yx81, ex81, hp⟩ := gbo_some hp
                obtain rfl : yx81 = x81 := ex81.trans hx81.symm
                exact ih _ _ _ _ _ _ hR hp
set_option maxRecDepth 100000 in
set_option maxHeartbeats 1000000 in
theorem gq_X12_shorts_87 {a0 : Nat} {arr : Nat → Nat} {r : Unit} {w' : MS} {Q : St → Prop} (hq : ∀ (s : St), RF a0 arr s → gret () (absM a0 arr s) = some (r, w') → Q s) {K43 : Nat → Int32 → Int32 → Int32 → Int32 → Int32 → St → Prop} {LK43 : Int32 → Int32 → Int32 → Int32 → Int32 → GM (Unit)} (hK43 : ∀ (y1 : Int32) (y2 : Int32) (y3 : Int32) (y4 : Int32) (y5 : Int32) (y6 : St), RF a0 arr y6 → LK43 y1 y2 y3 y4 y5 (absM a0 arr y6) = some (r, w') → K43 a0 y1 y2 y3 y4 y5 y6) : ∀ (x1 : Int32) (x2 : Int32) (x4 : Int32) (x5 : Int32) (x6 : Int32) (x7 : Int32) (xs0 : Int32) (σ : St), RF a0 arr σ → g_X12_shorts_87 LK43 x1 x2 x4 x5 x6 x7 xs0 (absM a0 arr σ) = some (r, w') → w_X12_shorts_87 Q K43 a0 x1 x2 x4 x5 x6 x7 xs0 σ := by
  intro x1 x2 x4 x5 x6 x7 xs0 σ hR hp
  unfold g_X12_shorts_87 at hp
  unfold w_X12_shorts_87
  replace hp := grd_some hp
  intro o86 ho86
  rw [hR.ref 40 (by decide)] at ho86
  subst ho86
  refine ⟨arr 40, rfl, ?_⟩
  obtain ⟨hv, hp⟩ := gix_some hp
  refine ⟨by rw [hR.len 40 (by first | decide | assumption)]; exact hv, ?_⟩
  obtain ⟨hv, hp⟩ := gmd_some hp
  refine ⟨of_decide_eq_true hv, ?_⟩
  refine ⟨fun c => ?_, fun c => ?_⟩
  · replace hp := gif_f hp c
    exact hK43 _ _ _ _ _ _ hR hp
  · replace hp := gif_t hp c
    intro o91 ho91
    rw [hR.ref 41 (by decide)] at ho91
    subst ho91
    refine ⟨arr 41, rfl, ?_⟩
    obtain ⟨hv, hp⟩ := gix_some hp
    refine ⟨by rw [hR.len 41 (by first | decide | assumption)]; exact hv, ?_⟩
    refine ⟨fun c => ?_, fun c => ?_⟩
    · replace hp := gif_f hp c
      exact hK43 _ _ _ _ _ _ hR hp
    · replace hp := gif_t hp c
      intro o95 ho95
      rw [hR.ref 42 (by decide)] at ho95
      subst ho95
      refine ⟨arr 42, rfl, ?_⟩
      obtain ⟨hv, hp⟩ := gix_some hp
      refine ⟨by rw [hR.len 42 (by first | decide | assumption)]; exact hv, ?_⟩
      refine ⟨fun c => ?_, fun c => ?_⟩
      · replace hp := gif_f hp c
        exact hK43 _ _ _ _ _ _ hR hp
      · replace hp := gif_t hp c
        refine ⟨fun c => ?_, fun c => ?_⟩
        · replace hp := gif_t hp c
          exact hK43 _ _ _ _ _ _ hR hp
        · replace hp := gif_f hp c
          intro o100 ho100
          rw [hR.ref 43 (by decide)] at ho100
          subst ho100
          intro o101 ho101
          rw [hR.ref 43 (by decide)] at ho101
          subst ho101
          refine ⟨arr 43, rfl, ?_⟩
          obtain ⟨hv, hp⟩ := gix_some hp
          refine ⟨by rw [hR.len 43 (by first | decide | assumption)]; exact hv, ?_⟩
          obtain ⟨x104, w105, he, hp⟩ := gb_some hp
          refine gq_X12_less hR he (fun s105 hR hw => ?_)
          subst hw
          clear he
          refine ⟨arr 43, rfl, ?_⟩
          obtain ⟨hv, hp⟩ := gix_some hp
          refine ⟨by rw [hR.len 43 (by first | decide | assumption)]; exact hv, ?_⟩
          intro s108 hs108
          have h2 := abs_setA hR 43 (by first | decide | assumption) hs108
          replace hR := hR.setA hs108
          replace hp := gst_up hp h2
          clear h2 hs108
          replace hp := grd_some hp
          intro o109 ho109
          rw [hR.ref 43 (by decide)] at ho109
          subst ho109
          refine ⟨arr 43, rfl, ?_⟩
          obtain ⟨hv, hp⟩ := gix_some hp
          refine ⟨by rw [hR.len 43 (by first | decide | assumption)]; exact hv, ?_⟩
          intro x112 hx112
          obtain ⟨yx112, ex112, hp⟩ := gbo_some hp
          obtain rfl : yx112 = x112 := ex112.trans hx112.symm
          intro o113 ho113
          rw [hR.ref 44 (by decide)] at ho113
          subst ho113
          refine ⟨arr 44, rfl, ?_⟩
          obtain ⟨hv, hp⟩ := gix_some hp
          refine ⟨by rw [hR.len 44 (by first | decide | assumption)]; exact hv, ?_⟩
          refine ⟨fun c => ?_, fun c => ?_⟩
          · replace hp := gif_t hp c
            exact hK43 _ _ _ _ _ _ hR hp
          · replace hp := gif_f hp c
            intro o117 ho117
            rw [hR.ref 44 (by decide)] at ho117
            subst ho117
            refine ⟨arr 44, rfl, ?_⟩
            obtain ⟨hv, hp⟩ := gix_some hp
            refine ⟨by rw [hR.len 44 (by first | decide | assumption)]; exact hv, ?_⟩
            intro o120 ho120
            rw [hR.ref 43 (by decide)] at ho120
            subst ho120
            refine ⟨arr 43, rfl, ?_⟩
            obtain ⟨hv, hp⟩ := gix_some hp
            refine ⟨by rw [hR.len 43 (by first | decide | assumption)]; exact hv, ?_⟩
            obtain ⟨x123, w124, he, hp⟩ := gb_some hp
            refine gq_X12_keeps hR he (fun s124 hR hw => ?_)
            subst hw
            clear he
            exact hK43 _ _ _ _ _ _ hR hp
set_option maxRecDepth 100000 in
set_option maxHeartbeats 1000000 in
theorem gq_X12_shorts_43 {a0 : Nat} {arr : Nat → Nat} {r : Unit} {w' : MS} {Q : St → Prop} (hq : ∀ (s : St), RF a0 arr s → gret () (absM a0 arr s) = some (r, w') → Q s) : ∀ (f : Nat) (x1 : Int32) (x2 : Int32) (x4 : Int32) (x5 : Int32) (x6 : Int32) (σ : St), RF a0 arr σ → g_X12_shorts_43 f x1 x2 x4 x5 x6 (absM a0 arr σ) = some (r, w') → w_X12_shorts_43 Q  f a0 x1 x2 x4 x5 x6 σ := by
  intro f
  induction f with
  | zero => intro x1 x2 x4 x5 x6 σ hR hp; cases hp
  | succ f ih =>
    intro x1 x2 x4 x5 x6 σ hR hp
    unfold g_X12_shorts_43 at hp
    unfold w_X12_shorts_43
    replace hp := grd_some hp
    refine ⟨fun c => ?_, fun c => ?_⟩
    · replace hp := gif_t hp c
      refine ⟨FU, ?_⟩
      exact gq_X12_shorts_206 hq FU _ _ _ _ _ _ hR hp
    · replace hp := gif_f hp c
      obtain ⟨hv, hp⟩ := gmd_some hp
      refine ⟨of_decide_eq_true hv, ?_⟩
      intro x84 hx84
      obtain ⟨yx84, ex84, hp⟩ := gbo_some hp
      obtain rfl : yx84 = x84 := ex84.trans hx84.symm
      refine ⟨fun c => ?_, fun c => ?_⟩
      · replace hp := gif_t hp c
        exact gq_X12_shorts_87 hq ih _ _ _ _ _ _ _ _ hR hp
      · replace hp := gif_f hp c
        intro o125 ho125
        rw [hR.ref 44 (by decide)] at ho125
        subst ho125
        refine ⟨arr 44, rfl, ?_⟩
        obtain ⟨hv, hp⟩ := gix_some hp
        refine ⟨by rw [hR.len 44 (by first | decide | assumption)]; exact hv, ?_⟩
        refine ⟨fun c => ?_, fun c => ?_⟩
        · replace hp := gif_t hp c
          exact gq_X12_shorts_87 hq ih _ _ _ _ _ _ _ _ hR hp
        · replace hp := gif_f hp c
          exact gq_X12_shorts_87 hq ih _ _ _ _ _ _ _ _ hR hp
set_option maxRecDepth 100000 in
set_option maxHeartbeats 1000000 in
theorem gq_X12_shorts {a0 : Nat} {arr : Nat → Nat} {σ : St} {x1 : Int32} {x2 : Int32} {x3 : Int32} {x4 : Int32} (hR : RF a0 arr σ) {r : Unit} {w' : MS} (hp : g_X12_shorts x1 x2 x3 x4 (absM a0 arr σ) = some (r, w')) {Q : St → Prop} (hq : ∀ (s : St), RF a0 arr s → absM a0 arr s = w' → Q s) : w_X12_shorts a0 x1 x2 x3 x4 σ Q := by
  replace hq : ∀ (s : St), RF a0 arr s → gret () (absM a0 arr s) = some (r, w') → Q s := fun s hR e => by obtain ⟨rfl, hw⟩ := gret_some e; exact hq s hR hw
  unfold g_X12_shorts at hp
  unfold w_X12_shorts
  replace hp := grd_some hp
  intro o51 ho51
  rw [hR.ref 19 (by decide)] at ho51
  subst ho51
  refine ⟨arr 19, rfl, ?_⟩
  obtain ⟨hv, hp⟩ := gix_some hp
  refine ⟨by rw [hR.len 19 (by first | decide | assumption)]; exact hv, ?_⟩
  obtain ⟨u55, w55, he, hp⟩ := gb_some hp
  refine gq_X12_books hR he (fun s55 hR hw => ?_)
  subst hw
  clear he
  replace hp := grd_some hp
  refine ⟨fun c => ?_, fun c => ?_⟩
  · replace hp := gif_f hp c
    intro o57 ho57
    rw [hR.ref 51 (by decide)] at ho57
    subst ho57
    refine ⟨arr 51, rfl, ?_⟩
    obtain ⟨hv, hp⟩ := gix_some hp
    refine ⟨by rw [hR.len 51 (by first | decide | assumption)]; exact hv, ?_⟩
    intro x60 hx60
    obtain ⟨yx60, ex60, hp⟩ := gbo_some hp
    obtain rfl : yx60 = x60 := ex60.trans hx60.symm
    refine ⟨FU, ?_⟩
    exact gq_X12_shorts_43 hq FU _ _ _ _ _ _ hR hp
  · replace hp := gif_t hp c
    intro x130 hx130
    obtain ⟨yx130, ex130, hp⟩ := gbo_some hp
    obtain rfl : yx130 = x130 := ex130.trans hx130.symm
    refine ⟨FU, ?_⟩
    exact gq_X12_shorts_43 hq FU _ _ _ _ _ _ hR hp
set_option maxRecDepth 100000 in
set_option maxHeartbeats 1000000 in
theorem gq_X12_taskAt_14 {a0 : Nat} {arr : Nat → Nat} {r : Int32} {w' : MS} {Q : Int32 → St → Prop} (hq : ∀ (s : St) (x : Int32), RF a0 arr s → gret x (absM a0 arr s) = some (r, w') → Q x s) : ∀ (x1 : Int32) (xs1 : Int32) (σ : St), RF a0 arr σ → g_X12_taskAt_14 x1 xs1 (absM a0 arr σ) = some (r, w') → w_X12_taskAt_14 Q  a0 x1 a0 xs1 σ := by
  intro x1 xs1 σ hR hp
  unfold g_X12_taskAt_14 at hp
  unfold w_X12_taskAt_14
  obtain ⟨x54, w55, he, hp⟩ := gb_some hp
  refine gq_X12_holds hR he (fun s55 hR hw => ?_)
  subst hw
  clear he
  replace hp := grd_some hp
  refine ⟨fun c => ?_, fun c => ?_⟩
  · replace hp := gif_t hp c
    exact hq _ _ hR hp
  · replace hp := gif_f hp c
    intro o57 ho57
    rw [hR.ref 46 (by decide)] at ho57
    subst ho57
    refine ⟨arr 46, rfl, ?_⟩
    obtain ⟨hv, hp⟩ := gix_some hp
    refine ⟨by rw [hR.len 46 (by first | decide | assumption)]; exact hv, ?_⟩
    intro o60 ho60
    rw [hR.ref 52 (by decide)] at ho60
    subst ho60
    refine ⟨arr 52, rfl, ?_⟩
    obtain ⟨hv, hp⟩ := gix_some hp
    refine ⟨by rw [hR.len 52 (by first | decide | assumption)]; exact hv, ?_⟩
    intro o63 ho63
    rw [hR.ref 51 (by decide)] at ho63
    subst ho63
    refine ⟨arr 51, rfl, ?_⟩
    obtain ⟨hv, hp⟩ := gix_some hp
    refine ⟨by rw [hR.len 51 (by first | decide | assumption)]; exact hv, ?_⟩
    exact hq _ _ hR hp
set_option maxRecDepth 100000 in
set_option maxHeartbeats 1000000 in
theorem gq_X12_taskAt {a0 : Nat} {arr : Nat → Nat} {σ : St} {x1 : Int32} (hR : RF a0 arr σ) {r : Int32} {w' : MS} (hp : g_X12_taskAt x1 (absM a0 arr σ) = some (r, w')) {Q : Int32 → St → Prop} (hq : ∀ (s : St), RF a0 arr s → absM a0 arr s = w' → Q r s) : w_X12_taskAt a0 x1 σ Q := by
  replace hq : ∀ (s : St) (x : Int32), RF a0 arr s → gret x (absM a0 arr s) = some (r, w') → Q x s := fun s x hR e => by obtain ⟨rfl, hw⟩ := gret_some e; exact hq s hR hw
  unfold g_X12_taskAt at hp
  unfold w_X12_taskAt
  obtain ⟨x51, w52, he, hp⟩ := gb_some hp
  refine gq_X12_isTask hR he (fun s52 hR hw => ?_)
  subst hw
  clear he
  refine ⟨fun c => ?_, fun c => ?_⟩
  · replace hp := gif_t hp c
    exact gq_X12_taskAt_14 hq _ _ _ hR hp
  · replace hp := gif_f hp c
    exact gq_X12_taskAt_14 hq _ _ _ hR hp
set_option maxRecDepth 100000 in
set_option maxHeartbeats 1000000 in
theorem gq_X12_wave_92 {a0 : Nat} {arr : Nat → Nat} {r : Int32} {w' : MS} {Q : Int32 → St → Prop} (hq : ∀ (s : St) (x : Int32), RF a0 arr s → gret x (absM a0 arr s) = some (r, w') → Q x s) : ∀ (f : Nat) (x1 : Int32) (x2 : Int32) (x6 : Int32) (x7 : Int32) (σ : St), RF a0 arr σ → g_X12_wave_92 f x1 x2 x6 x7 (absM a0 arr σ) = some (r, w') → w_X12_wave_92 Q  f a0 x1 x2 x6 x7 σ := by
  intro f
  induction f with
  | zero => intro x1 x2 x6 x7 σ hR hp; cases hp
  | succ f ih =>
    intro x1 x2 x6 x7 σ hR hp
    unfold g_X12_wave_92 at hp
    unfold w_X12_wave_92
    refine ⟨fun c => ?_, fun c => ?_⟩
    · replace hp := gif_t hp c
      exact hq _ _ hR hp
    · replace hp := gif_f hp c
      refine ⟨fun c => ?_, fun c => ?_⟩
      · replace hp := gif_t hp c
        exact hq _ _ hR hp
      · replace hp := gif_f hp c
        obtain ⟨x66, w67, he, hp⟩ := gb_some hp
        refine gq_X12_slotAt hR he (fun s67 hR hw => ?_)
        subst hw
        clear he
        obtain ⟨u69, w69, he, hp⟩ := gb_some hp
        refine gq_X12_makesPicks hR he (fun s69 hR hw => ?_)
        subst hw
        clear he
        exact ih _ _ _ _ _ hR hp
set_option maxRecDepth 100000 in
set_option maxHeartbeats 1000000 in
theorem gq_X12_wave_74 {a0 : Nat} {arr : Nat → Nat} {r : Int32} {w' : MS} {Q : Int32 → St → Prop} (hq : ∀ (s : St) (x : Int32), RF a0 arr s → gret x (absM a0 arr s) = some (r, w') → Q x s) : ∀ (x1 : Int32) (x2 : Int32) (xs1 : Int32) (σ : St), RF a0 arr σ → g_X12_wave_74 x1 x2 xs1 (absM a0 arr σ) = some (r, w') → w_X12_wave_74 Q  a0 x1 x2 a0 xs1 σ := by
  intro x1 x2 xs1 σ hR hp
  unfold g_X12_wave_74 at hp
  unfold w_X12_wave_74
  obtain ⟨x59, w60, he, hp⟩ := gb_some hp
  refine gq_X12_holds hR he (fun s60 hR hw => ?_)
  subst hw
  clear he
  refine ⟨fun c => ?_, fun c => ?_⟩
  · replace hp := gif_f hp c
    obtain ⟨x62, w63, he, hp⟩ := gb_some hp
    refine gq_X12_picks hR he (fun s63 hR hw => ?_)
    subst hw
    clear he
    refine ⟨FU, ?_⟩
    exact gq_X12_wave_92 hq FU _ _ _ _ _ hR hp
  · replace hp := gif_t hp c
    exact hq _ _ hR hp
set_option maxRecDepth 100000 in
set_option maxHeartbeats 1000000 in
theorem gq_X12_wave_44 {a0 : Nat} {arr : Nat → Nat} {r : Int32} {w' : MS} {Q : Int32 → St → Prop} (hq : ∀ (s : St) (x : Int32), RF a0 arr s → gret x (absM a0 arr s) = some (r, w') → Q x s) : ∀ (x1 : Int32) (x2 : Int32) (x3 : Int32) (x4 : Int32) (xs0 : Int32) (σ : St), RF a0 arr σ → g_X12_wave_44 x1 x2 x3 x4 xs0 (absM a0 arr σ) = some (r, w') → w_X12_wave_44 Q  a0 x1 x2 x3 x4 xs0 σ := by
  intro x1 x2 x3 x4 xs0 σ hR hp
  unfold g_X12_wave_44 at hp
  unfold w_X12_wave_44
  refine ⟨fun c => ?_, fun c => ?_⟩
  · replace hp := gif_f hp c
    refine ⟨fun c => ?_, fun c => ?_⟩
    · replace hp := gif_f hp c
      refine ⟨fun c => ?_, fun c => ?_⟩
      · replace hp := gif_t hp c
        exact gq_X12_wave_74 hq _ _ _ _ hR hp
      · replace hp := gif_f hp c
        exact gq_X12_wave_74 hq _ _ _ _ hR hp
    · replace hp := gif_t hp c
      exact gq_X12_wave_74 hq _ _ _ _ hR hp
  · replace hp := gif_t hp c
    exact gq_X12_wave_74 hq _ _ _ _ hR hp
set_option maxRecDepth 100000 in
set_option maxHeartbeats 1000000 in
theorem gq_X12_wave_43 {a0 : Nat} {arr : Nat → Nat} {r : Int32} {w' : MS} {Q : Int32 → St → Prop} (hq : ∀ (s : St) (x : Int32), RF a0 arr s → gret x (absM a0 arr s) = some (r, w') → Q x s) : ∀ (x1 : Int32) (x2 : Int32) (x3 : Int32) (x4 : Int32) (σ : St), RF a0 arr σ → g_X12_wave_43 x1 x2 x3 x4 (absM a0 arr σ) = some (r, w') → w_X12_wave_43 Q  a0 x1 x2 x3 x4 σ := by
  intro x1 x2 x3 x4 σ hR hp
  unfold g_X12_wave_43 at hp
  unfold w_X12_wave_43
  exact gq_X12_wave_44 hq _ _ _ _ _ _ hR hp
set_option maxRecDepth 100000 in
set_option maxHeartbeats 1000000 in
theorem gq_X12_wave {a0 : Nat} {arr : Nat → Nat} {σ : St} {x1 : Int32} {x2 : Int32} (hR : RF a0 arr σ) {r : Int32} {w' : MS} (hp : g_X12_wave x1 x2 (absM a0 arr σ) = some (r, w')) {Q : Int32 → St → Prop} (hq : ∀ (s : St), RF a0 arr s → absM a0 arr s = w' → Q r s) : w_X12_wave a0 x1 x2 σ Q := by
  replace hq : ∀ (s : St) (x : Int32), RF a0 arr s → gret x (absM a0 arr s) = some (r, w') → Q x s := fun s x hR e => by obtain ⟨rfl, hw⟩ := gret_some e; exact hq s hR hw
  unfold g_X12_wave at hp
  unfold w_X12_wave
  obtain ⟨x51, w52, he, hp⟩ := gb_some hp
  refine gq_X12_isRobot hR he (fun s52 hR hw => ?_)
  subst hw
  clear he
  obtain ⟨x53, w54, he, hp⟩ := gb_some hp
  refine gq_X12_isIn hR he (fun s54 hR hw => ?_)
  subst hw
  clear he
  replace hp := grd_some hp
  refine ⟨fun c => ?_, fun c => ?_⟩
  · replace hp := gif_t hp c
    exact gq_X12_wave_43 hq _ _ _ _ _ hR hp
  · replace hp := gif_f hp c
    refine ⟨fun c => ?_, fun c => ?_⟩
    · replace hp := gif_t hp c
      exact gq_X12_wave_43 hq _ _ _ _ _ hR hp
    · replace hp := gif_f hp c
      obtain ⟨x72, w73, he, hp⟩ := gb_some hp
      refine gq_X12_picks hR he (fun s73 hR hw => ?_)
      subst hw
      clear he
      refine ⟨fun c => ?_, fun c => ?_⟩
      · replace hp := gif_t hp c
        exact gq_X12_wave_43 hq _ _ _ _ _ hR hp
      · replace hp := gif_f hp c
        exact gq_X12_wave_44 hq _ _ _ _ _ _ hR hp
set_option maxRecDepth 100000 in
set_option maxHeartbeats 1000000 in
theorem gq_X12_where_13 {a0 : Nat} {arr : Nat → Nat} {r : Int32} {w' : MS} {Q : Int32 → St → Prop} (hq : ∀ (s : St) (x : Int32), RF a0 arr s → gret x (absM a0 arr s) = some (r, w') → Q x s) : ∀ (x1 : Int32) (xs1 : Int32) (σ : St), RF a0 arr σ → g_X12_where_13 x1 xs1 (absM a0 arr σ) = some (r, w') → w_X12_where_13 Q  a0 x1 a0 xs1 σ := by
  intro x1 xs1 σ hR hp
  unfold g_X12_where_13 at hp
  unfold w_X12_where_13
  obtain ⟨x54, w55, he, hp⟩ := gb_some hp
  refine gq_X12_holds hR he (fun s55 hR hw => ?_)
  subst hw
  clear he
  replace hp := grd_some hp
  refine ⟨fun c => ?_, fun c => ?_⟩
  · replace hp := gif_f hp c
    intro o57 ho57
    rw [hR.ref 55 (by decide)] at ho57
    subst ho57
    refine ⟨arr 55, rfl, ?_⟩
    obtain ⟨hv, hp⟩ := gix_some hp
    refine ⟨by rw [hR.len 55 (by first | decide | assumption)]; exact hv, ?_⟩
    refine ⟨fun c => ?_, fun c => ?_⟩
    · replace hp := gif_f hp c
      intro o61 ho61
      rw [hR.ref 55 (by decide)] at ho61
      subst ho61
      refine ⟨arr 55, rfl, ?_⟩
      obtain ⟨hv, hp⟩ := gix_some hp
      refine ⟨by rw [hR.len 55 (by first | decide | assumption)]; exact hv, ?_⟩
      intro o64 ho64
      rw [hR.ref 56 (by decide)] at ho64
      subst ho64
      refine ⟨arr 56, rfl, ?_⟩
      obtain ⟨hv, hp⟩ := gix_some hp
      refine ⟨by rw [hR.len 56 (by first | decide | assumption)]; exact hv, ?_⟩
      exact hq _ _ hR hp
    · replace hp := gif_t hp c
      exact hq _ _ hR hp
  · replace hp := gif_t hp c
    exact hq _ _ hR hp
set_option maxRecDepth 100000 in
set_option maxHeartbeats 1000000 in
theorem gq_X12_where {a0 : Nat} {arr : Nat → Nat} {σ : St} {x1 : Int32} (hR : RF a0 arr σ) {r : Int32} {w' : MS} (hp : g_X12_where x1 (absM a0 arr σ) = some (r, w')) {Q : Int32 → St → Prop} (hq : ∀ (s : St), RF a0 arr s → absM a0 arr s = w' → Q r s) : w_X12_where a0 x1 σ Q := by
  replace hq : ∀ (s : St) (x : Int32), RF a0 arr s → gret x (absM a0 arr s) = some (r, w') → Q x s := fun s x hR e => by obtain ⟨rfl, hw⟩ := gret_some e; exact hq s hR hw
  unfold g_X12_where at hp
  unfold w_X12_where
  obtain ⟨x51, w52, he, hp⟩ := gb_some hp
  refine gq_X12_isRobot hR he (fun s52 hR hw => ?_)
  subst hw
  clear he
  refine ⟨fun c => ?_, fun c => ?_⟩
  · replace hp := gif_t hp c
    exact gq_X12_where_13 hq _ _ _ hR hp
  · replace hp := gif_f hp c
    exact gq_X12_where_13 hq _ _ _ hR hp
set_option maxRecDepth 100000 in
set_option maxHeartbeats 1000000 in
theorem gq_X12_boxAt_39 {a0 : Nat} {arr : Nat → Nat} {r : Int32} {w' : MS} {Q : Int32 → St → Prop} (hq : ∀ (s : St) (x : Int32), RF a0 arr s → gret x (absM a0 arr s) = some (r, w') → Q x s) : ∀ (x1 : Int32) (x2 : Int32) (xs1 : Int32) (σ : St), RF a0 arr σ → g_X12_boxAt_39 x1 x2 xs1 (absM a0 arr σ) = some (r, w') → w_X12_boxAt_39 Q  a0 x1 x2 a0 xs1 σ := by
  intro x1 x2 xs1 σ hR hp
  unfold g_X12_boxAt_39 at hp
  unfold w_X12_boxAt_39
  obtain ⟨x55, w56, he, hp⟩ := gb_some hp
  refine gq_X12_holds hR he (fun s56 hR hw => ?_)
  subst hw
  clear he
  replace hp := grd_some hp
  refine ⟨fun c => ?_, fun c => ?_⟩
  · replace hp := gif_f hp c
    intro o58 ho58
    rw [hR.ref 32 (by decide)] at ho58
    subst ho58
    refine ⟨arr 32, rfl, ?_⟩
    obtain ⟨hv, hp⟩ := gix_some hp
    refine ⟨by rw [hR.len 32 (by first | decide | assumption)]; exact hv, ?_⟩
    refine ⟨fun c => ?_, fun c => ?_⟩
    · replace hp := gif_t hp c
      intro o62 ho62
      rw [hR.ref 62 (by decide)] at ho62
      subst ho62
      refine ⟨arr 62, rfl, ?_⟩
      obtain ⟨hv, hp⟩ := gix_some hp
      refine ⟨by rw [hR.len 62 (by first | decide | assumption)]; exact hv, ?_⟩
      intro o65 ho65
      rw [hR.ref 63 (by decide)] at ho65
      subst ho65
      refine ⟨arr 63, rfl, ?_⟩
      obtain ⟨hv, hp⟩ := gix_some hp
      refine ⟨by rw [hR.len 63 (by first | decide | assumption)]; exact hv, ?_⟩
      exact hq _ _ hR hp
    · replace hp := gif_f hp c
      intro o68 ho68
      rw [hR.ref 34 (by decide)] at ho68
      subst ho68
      refine ⟨arr 34, rfl, ?_⟩
      obtain ⟨hv, hp⟩ := gix_some hp
      refine ⟨by rw [hR.len 34 (by first | decide | assumption)]; exact hv, ?_⟩
      exact hq _ _ hR hp
  · replace hp := gif_t hp c
    exact hq _ _ hR hp
set_option maxRecDepth 100000 in
set_option maxHeartbeats 1000000 in
theorem gq_X12_boxAt_28 {a0 : Nat} {arr : Nat → Nat} {r : Int32} {w' : MS} {Q : Int32 → St → Prop} (hq : ∀ (s : St) (x : Int32), RF a0 arr s → gret x (absM a0 arr s) = some (r, w') → Q x s) : ∀ (x1 : Int32) (x2 : Int32) (xs0 : Int32) (σ : St), RF a0 arr σ → g_X12_boxAt_28 x1 x2 xs0 (absM a0 arr σ) = some (r, w') → w_X12_boxAt_28 Q  a0 x1 x2 xs0 σ := by
  intro x1 x2 xs0 σ hR hp
  unfold g_X12_boxAt_28 at hp
  unfold w_X12_boxAt_28
  refine ⟨fun c => ?_, fun c => ?_⟩
  · replace hp := gif_t hp c
    exact gq_X12_boxAt_39 hq _ _ _ _ hR hp
  · replace hp := gif_f hp c
    exact gq_X12_boxAt_39 hq _ _ _ _ hR hp
set_option maxRecDepth 100000 in
set_option maxHeartbeats 1000000 in
theorem gq_X12_boxAt_27 {a0 : Nat} {arr : Nat → Nat} {r : Int32} {w' : MS} {Q : Int32 → St → Prop} (hq : ∀ (s : St) (x : Int32), RF a0 arr s → gret x (absM a0 arr s) = some (r, w') → Q x s) : ∀ (x1 : Int32) (x2 : Int32) (σ : St), RF a0 arr σ → g_X12_boxAt_27 x1 x2 (absM a0 arr σ) = some (r, w') → w_X12_boxAt_27 Q  a0 x1 x2 σ := by
  intro x1 x2 σ hR hp
  unfold g_X12_boxAt_27 at hp
  unfold w_X12_boxAt_27
  exact gq_X12_boxAt_28 hq _ _ _ _ hR hp
set_option maxRecDepth 100000 in
set_option maxHeartbeats 1000000 in
theorem gq_X12_boxAt {a0 : Nat} {arr : Nat → Nat} {σ : St} {x1 : Int32} {x2 : Int32} (hR : RF a0 arr σ) {r : Int32} {w' : MS} (hp : g_X12_boxAt x1 x2 (absM a0 arr σ) = some (r, w')) {Q : Int32 → St → Prop} (hq : ∀ (s : St), RF a0 arr s → absM a0 arr s = w' → Q r s) : w_X12_boxAt a0 x1 x2 σ Q := by
  replace hq : ∀ (s : St) (x : Int32), RF a0 arr s → gret x (absM a0 arr s) = some (r, w') → Q x s := fun s x hR e => by obtain ⟨rfl, hw⟩ := gret_some e; exact hq s hR hw
  unfold g_X12_boxAt at hp
  unfold w_X12_boxAt
  obtain ⟨x51, w52, he, hp⟩ := gb_some hp
  refine gq_X12_isOrder hR he (fun s52 hR hw => ?_)
  subst hw
  clear he
  refine ⟨fun c => ?_, fun c => ?_⟩
  · replace hp := gif_t hp c
    exact gq_X12_boxAt_27 hq _ _ _ hR hp
  · replace hp := gif_f hp c
    obtain ⟨x71, w72, he, hp⟩ := gb_some hp
    refine gq_X12_boxesOf hR he (fun s72 hR hw => ?_)
    subst hw
    clear he
    obtain ⟨x73, w74, he, hp⟩ := gb_some hp
    refine gq_X12_isIn hR he (fun s74 hR hw => ?_)
    subst hw
    clear he
    refine ⟨fun c => ?_, fun c => ?_⟩
    · replace hp := gif_t hp c
      exact gq_X12_boxAt_27 hq _ _ _ hR hp
    · replace hp := gif_f hp c
      exact gq_X12_boxAt_28 hq _ _ _ _ hR hp
set_option maxRecDepth 100000 in
set_option maxHeartbeats 1000000 in
theorem gq_X12_boxes_14 {a0 : Nat} {arr : Nat → Nat} {r : Int32} {w' : MS} {Q : Int32 → St → Prop} (hq : ∀ (s : St) (x : Int32), RF a0 arr s → gret x (absM a0 arr s) = some (r, w') → Q x s) : ∀ (x1 : Int32) (xs1 : Int32) (σ : St), RF a0 arr σ → g_X12_boxes_14 x1 xs1 (absM a0 arr σ) = some (r, w') → w_X12_boxes_14 Q  a0 x1 a0 xs1 σ := by
  intro x1 xs1 σ hR hp
  unfold g_X12_boxes_14 at hp
  unfold w_X12_boxes_14
  obtain ⟨x54, w55, he, hp⟩ := gb_some hp
  refine gq_X12_holds hR he (fun s55 hR hw => ?_)
  subst hw
  clear he
  refine ⟨fun c => ?_, fun c => ?_⟩
  · replace hp := gif_t hp c
    exact hq _ _ hR hp
  · replace hp := gif_f hp c
    obtain ⟨x57, w58, he, hp⟩ := gb_some hp
    refine gq_X12_boxesOf hR he (fun s58 hR hw => ?_)
    subst hw
    clear he
    exact hq _ _ hR hp
