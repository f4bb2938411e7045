set_option maxRecDepth 100000 in
set_option maxHeartbeats 1000000 in
theorem gq_X12_boxes {a0 : Nat} {arr : Nat → Nat} {σ : St} {x1 : Int32} (hR : RF a0 arr σ) {r : Int32} {w' : MS} (hp : g_X12_boxes x1 (absM a0 arr σ) = some (r, w')) {Q : Int32 → St → Prop} (hq : ∀ (s : St), RF a0 arr s → absM a0 arr s = w' → Q r s) : w_X12_boxes a0 x1 σ Q := by
  replace hq : ∀ (s : St) (x : Int32), RF a0 arr s → gret x (absM a0 arr s) = some (r, w') → Q x s := fun s x hR e => by obtain ⟨rfl, hw⟩ := gret_some e; exact hq s hR hw
  unfold g_X12_boxes at hp
  unfold w_X12_boxes
  obtain ⟨x51, w52, he, hp⟩ := gb_some hp
  refine gq_X12_isOrder hR he (fun s52 hR hw => ?_)
  subst hw
  clear he
  refine ⟨fun c => ?_, fun c => ?_⟩
  · replace hp := gif_t hp c
    exact gq_X12_boxes_14 hq _ _ _ hR hp
  · replace hp := gif_f hp c
    exact gq_X12_boxes_14 hq _ _ _ hR hp
set_option maxRecDepth 100000 in
set_option maxHeartbeats 1000000 in
theorem gq_X12_count_144 {a0 : Nat} {arr : Nat → Nat} {r : Int32} {w' : MS} {Q : Int32 → St → Prop} (hq : ∀ (s : St) (x : Int32), RF a0 arr s → gret x (absM a0 arr s) = some (r, w') → Q x s) : ∀ (x1 : Int32) (x2 : Int32) (x3 : Int32) (x4 : Int32) (x5 : Int32) (σ : St), RF a0 arr σ → g_X12_count_144 x1 x2 x3 x4 x5 (absM a0 arr σ) = some (r, w') → w_X12_count_144 Q  a0 x1 x2 x3 x4 x5 σ := by
  intro x1 x2 x3 x4 x5 σ hR hp
  unfold g_X12_count_144 at hp
  unfold w_X12_count_144
  replace hp := grd_some hp
  refine ⟨fun c => ?_, fun c => ?_⟩
  · replace hp := gif_t hp c
    exact hq _ _ hR hp
  · replace hp := gif_f hp c
    intro o77 ho77
    rw [hR.ref 19 (by decide)] at ho77
    subst ho77
    refine ⟨arr 19, rfl, ?_⟩
    obtain ⟨hv, hp⟩ := gix_some hp
    refine ⟨by rw [hR.len 19 (by first | decide | assumption)]; exact hv, ?_⟩
    obtain ⟨u81, w81, he, hp⟩ := gb_some hp
    refine gq_X12_books hR he (fun s81 hR hw => ?_)
    subst hw
    clear he
    exact hq _ _ hR hp
set_option maxRecDepth 100000 in
set_option maxHeartbeats 1000000 in
theorem gq_X12_count_111 {a0 : Nat} {arr : Nat → Nat} {r : Int32} {w' : MS} {Q : Int32 → St → Prop} (hq : ∀ (s : St) (x : Int32), RF a0 arr s → gret x (absM a0 arr s) = some (r, w') → Q x s) : ∀ (x1 : Int32) (x2 : Int32) (x3 : Int32) (x4 : Int32) (x5 : Int32) (os0 : Nat) (xs1 : Int32) (xs2 : Int32) (σ : St), RF a0 arr σ → g_X12_count_111 x1 x2 x3 x4 x5 os0 xs1 xs2 (absM a0 arr σ) = some (r, w') → w_X12_count_111 Q  a0 x1 x2 x3 x4 x5 (some (arr os0)) xs1 xs2 σ := by
  intro x1 x2 x3 x4 x5 os0 xs1 xs2 σ hR hp
  unfold g_X12_count_111 at hp
  unfold w_X12_count_111
  obtain ⟨hAos0, hp⟩ := gmd_some hp
  refine ⟨arr os0, rfl, ?_⟩
  obtain ⟨hv, hp⟩ := gix_some hp
  refine ⟨by rw [hR.len os0 (by first | decide | assumption)]; exact hv, ?_⟩
  intro s74 hs74
  have h2 := abs_setA hR os0 (by first | decide | assumption) hs74
  replace hR := hR.setA hs74
  replace hp := gst_up hp h2
  clear h2 hs74
  replace hp := grd_some hp
  refine ⟨fun c => ?_, fun c => ?_⟩
  · replace hp := gif_t hp c
    exact gq_X12_count_144 hq _ _ _ _ _ _ hR hp
  · replace hp := gif_f hp c
    intro o82 ho82
    rw [hR.ref 19 (by decide)] at ho82
    subst ho82
    refine ⟨arr 19, rfl, ?_⟩
    obtain ⟨hv, hp⟩ := gix_some hp
    refine ⟨by rw [hR.len 19 (by first | decide | assumption)]; exact hv, ?_⟩
    refine ⟨fun c => ?_, fun c => ?_⟩
    · replace hp := gif_t hp c
      exact gq_X12_count_144 hq _ _ _ _ _ _ hR hp
    · replace hp := gif_f hp c
      obtain ⟨u87, w87, he, hp⟩ := gb_some hp
      refine gq_X12_shorts hR he (fun s87 hR hw => ?_)
      subst hw
      clear he
      obtain ⟨u89, w89, he, hp⟩ := gb_some hp
      refine gq_X12_tidies hR he (fun s89 hR hw => ?_)
      subst hw
      clear he
      exact hq _ _ hR hp
set_option maxRecDepth 100000 in
set_option maxHeartbeats 1000000 in
theorem gq_X12_count_82 {a0 : Nat} {arr : Nat → Nat} {r : Int32} {w' : MS} {Q : Int32 → St → Prop} (hq : ∀ (s : St) (x : Int32), RF a0 arr s → gret x (absM a0 arr s) = some (r, w') → Q x s) : ∀ (x1 : Int32) (x2 : Int32) (x3 : Int32) (x4 : Int32) (xs0 : Int32) (σ : St), RF a0 arr σ → g_X12_count_82 x1 x2 x3 x4 xs0 (absM a0 arr σ) = some (r, w') → w_X12_count_82 Q  a0 x1 x2 x3 x4 xs0 σ := by
  intro x1 x2 x3 x4 xs0 σ hR hp
  unfold g_X12_count_82 at hp
  unfold w_X12_count_82
  replace hp := grd_some hp
  intro o67 ho67
  rw [hR.ref 21 (by decide)] at ho67
  subst ho67
  intro o68 ho68
  rw [hR.ref 19 (by decide)] at ho68
  subst ho68
  refine ⟨arr 19, rfl, ?_⟩
  obtain ⟨hv, hp⟩ := gix_some hp
  refine ⟨by rw [hR.len 19 (by first | decide | assumption)]; exact hv, ?_⟩
  refine ⟨fun c => ?_, fun c => ?_⟩
  · replace hp := gif_t hp c
    exact gq_X12_count_111 hq _ _ _ _ _ _ _ _ _ hR hp
  · replace hp := gif_f hp c
    refine ⟨fun c => ?_, fun c => ?_⟩
    · replace hp := gif_t hp c
      exact gq_X12_count_111 hq _ _ _ _ _ _ _ _ _ hR hp
    · replace hp := gif_f hp c
      exact gq_X12_count_111 hq _ _ _ _ _ _ _ _ _ hR hp
set_option maxRecDepth 100000 in
set_option maxHeartbeats 1000000 in
theorem gq_X12_count_81 {a0 : Nat} {arr : Nat → Nat} {r : Int32} {w' : MS} {Q : Int32 → St → Prop} (hq : ∀ (s : St) (x : Int32), RF a0 arr s → gret x (absM a0 arr s) = some (r, w') → Q x s) : ∀ (x1 : Int32) (x2 : Int32) (x3 : Int32) (x4 : Int32) (σ : St), RF a0 arr σ → g_X12_count_81 x1 x2 x3 x4 (absM a0 arr σ) = some (r, w') → w_X12_count_81 Q  a0 x1 x2 x3 x4 σ := by
  intro x1 x2 x3 x4 σ hR hp
  unfold g_X12_count_81 at hp
  unfold w_X12_count_81
  exact gq_X12_count_82 hq _ _ _ _ _ _ hR hp
set_option maxRecDepth 100000 in
set_option maxHeartbeats 1000000 in
theorem gq_X12_count_21 {a0 : Nat} {arr : Nat → Nat} {r : Int32} {w' : MS} {Q : Int32 → St → Prop} (hq : ∀ (s : St) (x : Int32), RF a0 arr s → gret x (absM a0 arr s) = some (r, w') → Q x s) : ∀ (x1 : Int32) (x2 : Int32) (xs1 : Int32) (σ : St), RF a0 arr σ → g_X12_count_21 x1 x2 xs1 (absM a0 arr σ) = some (r, w') → w_X12_count_21 Q  a0 x1 x2 a0 xs1 σ := by
  intro x1 x2 xs1 σ hR hp
  unfold g_X12_count_21 at hp
  unfold w_X12_count_21
  obtain ⟨x54, w55, he, hp⟩ := gb_some hp
  refine gq_X12_holds hR he (fun s55 hR hw => ?_)
  subst hw
  clear he
  replace hp := grd_some hp
  refine ⟨fun c => ?_, fun c => ?_⟩
  · replace hp := gif_f hp c
    intro x57 hx57
    obtain ⟨yx57, ex57, hp⟩ := gbo_some hp
    obtain rfl : yx57 = x57 := ex57.trans hx57.symm
    intro o58 ho58
    rw [hR.ref 20 (by decide)] at ho58
    subst ho58
    refine ⟨arr 20, rfl, ?_⟩
    obtain ⟨hv, hp⟩ := gix_some hp
    refine ⟨by rw [hR.len 20 (by first | decide | assumption)]; exact hv, ?_⟩
    intro x61 hx61
    obtain ⟨yx61, ex61, hp⟩ := gbo_some hp
    obtain rfl : yx61 = x61 := ex61.trans hx61.symm
    intro s62 hs62
    have h2 := abs_setI (arr := arr) 2 (by decide) hs62
    replace hR := hR.setI hs62
    replace hp := gst_up hp h2
    clear h2 hs62
    replace hp := grd_some hp
    intro o63 ho63
    rw [hR.ref 19 (by decide)] at ho63
    subst ho63
    refine ⟨arr 19, rfl, ?_⟩
    obtain ⟨hv, hp⟩ := gix_some hp
    refine ⟨by rw [hR.len 19 (by first | decide | assumption)]; exact hv, ?_⟩
    refine ⟨fun c => ?_, fun c => ?_⟩
    · replace hp := gif_t hp c
      exact gq_X12_count_81 hq _ _ _ _ _ hR hp
    · replace hp := gif_f hp c
      intro o91 ho91
      rw [hR.ref 21 (by decide)] at ho91
      subst ho91
      refine ⟨arr 21, rfl, ?_⟩
      obtain ⟨hv, hp⟩ := gix_some hp
      refine ⟨by rw [hR.len 21 (by first | decide | assumption)]; exact hv, ?_⟩
      refine ⟨fun c => ?_, fun c => ?_⟩
      · replace hp := gif_f hp c
        exact gq_X12_count_81 hq _ _ _ _ _ hR hp
      · replace hp := gif_t hp c
        exact gq_X12_count_82 hq _ _ _ _ _ _ hR hp
  · replace hp := gif_t hp c
    exact hq _ _ hR hp
set_option maxRecDepth 100000 in
set_option maxHeartbeats 1000000 in
theorem gq_X12_count_20 {a0 : Nat} {arr : Nat → Nat} {r : Int32} {w' : MS} {Q : Int32 → St → Prop} (hq : ∀ (s : St) (x : Int32), RF a0 arr s → gret x (absM a0 arr s) = some (r, w') → Q x s) : ∀ (x1 : Int32) (x2 : Int32) (σ : St), RF a0 arr σ → g_X12_count_20 x1 x2 (absM a0 arr σ) = some (r, w') → w_X12_count_20 Q  a0 x1 x2 a0 σ := by
  intro x1 x2 σ hR hp
  unfold g_X12_count_20 at hp
  unfold w_X12_count_20
  exact gq_X12_count_21 hq _ _ _ _ hR hp
set_option maxRecDepth 100000 in
set_option maxHeartbeats 1000000 in
theorem gq_X12_count {a0 : Nat} {arr : Nat → Nat} {σ : St} {x1 : Int32} {x2 : Int32} (hR : RF a0 arr σ) {r : Int32} {w' : MS} (hp : g_X12_count x1 x2 (absM a0 arr σ) = some (r, w')) {Q : Int32 → St → Prop} (hq : ∀ (s : St), RF a0 arr s → absM a0 arr s = w' → Q r s) : w_X12_count a0 x1 x2 σ Q := by
  replace hq : ∀ (s : St) (x : Int32), RF a0 arr s → gret x (absM a0 arr s) = some (r, w') → Q x s := fun s x hR e => by obtain ⟨rfl, hw⟩ := gret_some e; exact hq s hR hw
  unfold g_X12_count at hp
  unfold w_X12_count
  obtain ⟨x51, w52, he, hp⟩ := gb_some hp
  refine gq_X12_isSlot hR he (fun s52 hR hw => ?_)
  subst hw
  clear he
  refine ⟨fun c => ?_, fun c => ?_⟩
  · replace hp := gif_t hp c
    exact gq_X12_count_20 hq _ _ _ hR hp
  · replace hp := gif_f hp c
    obtain ⟨x95, w96, he, hp⟩ := gb_some hp
    refine gq_X12_isLot hR he (fun s96 hR hw => ?_)
    subst hw
    clear he
    refine ⟨fun c => ?_, fun c => ?_⟩
    · replace hp := gif_t hp c
      exact gq_X12_count_20 hq _ _ _ hR hp
    · replace hp := gif_f hp c
      exact gq_X12_count_21 hq _ _ _ _ hR hp
set_option maxRecDepth 100000 in
set_option maxHeartbeats 1000000 in
theorem gq_X12_does_195 {a0 : Nat} {arr : Nat → Nat} {r : Unit} {w' : MS} {Q : St → Prop} (hq : ∀ (s : St), RF a0 arr s → gret () (absM a0 arr s) = some (r, w') → Q s) : ∀ (x1 : Int32) (x2 : Int32) (σ : St), RF a0 arr σ → g_X12_does_195 x1 x2 (absM a0 arr σ) = some (r, w') → w_X12_does_195 Q  a0 x1 x2 σ := by
  intro x1 x2 σ hR hp
  unfold g_X12_does_195 at hp
  unfold w_X12_does_195
  replace hp := grd_some hp
  intro o74 ho74
  rw [hR.ref 46 (by decide)] at ho74
  subst ho74
  refine ⟨arr 46, rfl, ?_⟩
  obtain ⟨hv, hp⟩ := gix_some hp
  refine ⟨by rw [hR.len 46 (by first | decide | assumption)]; exact hv, ?_⟩
  refine ⟨fun c => ?_, fun c => ?_⟩
  · replace hp := gif_f hp c
    intro o78 ho78
    rw [hR.ref 51 (by decide)] at ho78
    subst ho78
    refine ⟨arr 51, rfl, ?_⟩
    obtain ⟨hv, hp⟩ := gix_some hp
    refine ⟨by rw [hR.len 51 (by first | decide | assumption)]; exact hv, ?_⟩
    refine ⟨fun c => ?_, fun c => ?_⟩
    · replace hp := gif_f hp c
      intro o82 ho82
      rw [hR.ref 54 (by decide)] at ho82
      subst ho82
      refine ⟨arr 54, rfl, ?_⟩
      obtain ⟨hv, hp⟩ := gix_some hp
      refine ⟨by rw [hR.len 54 (by first | decide | assumption)]; exact hv, ?_⟩
      intro s85 hs85
      have h2 := abs_setA hR 54 (by first | decide | assumption) hs85
      replace hR := hR.setA hs85
      replace hp := gst_up hp h2
      clear h2 hs85
      exact hq _ hR hp
    · replace hp := gif_t hp c
      obtain ⟨u87, w87, he, hp⟩ := gb_some hp
      refine gq_X12_ends hR he (fun s87 hR hw => ?_)
      subst hw
      clear he
      exact hq _ hR hp
  · replace hp := gif_t hp c
    intro o88 ho88
    rw [hR.ref 20 (by decide)] at ho88
    subst ho88
    intro o89 ho89
    rw [hR.ref 48 (by decide)] at ho89
    subst ho89
    refine ⟨arr 48, rfl, ?_⟩
    obtain ⟨hv, hp⟩ := gix_some hp
    refine ⟨by rw [hR.len 48 (by first | decide | assumption)]; exact hv, ?_⟩
    intro x92 hx92
    obtain ⟨yx92, ex92, hp⟩ := gbo_some hp
    obtain rfl : yx92 = x92 := ex92.trans hx92.symm
    refine ⟨arr 20, rfl, ?_⟩
    obtain ⟨hv, hp⟩ := gix_some hp
    refine ⟨by rw [hR.len 20 (by first | decide | assumption)]; exact hv, ?_⟩
    intro o95 ho95
    rw [hR.ref 51 (by decide)] at ho95
    subst ho95
    refine ⟨arr 51, rfl, ?_⟩
    obtain ⟨hv, hp⟩ := gix_some hp
    refine ⟨by rw [hR.len 51 (by first | decide | assumption)]; exact hv, ?_⟩
    obtain ⟨hv, hp⟩ := gix_some hp
    refine ⟨by rw [hR.len 20 (by first | decide | assumption)]; exact hv, ?_⟩
    intro s99 hs99
    have h2 := abs_setA hR 20 (by first | decide | assumption) hs99
    replace hR := hR.setA hs99
    replace hp := gst_up hp h2
    clear h2 hs99
    replace hp := grd_some hp
    intro o100 ho100
    rw [hR.ref 38 (by decide)] at ho100
    subst ho100
    intro o101 ho101
    rw [hR.ref 50 (by decide)] at ho101
    subst ho101
    refine ⟨arr 50, rfl, ?_⟩
    obtain ⟨hv, hp⟩ := gix_some hp
    refine ⟨by rw [hR.len 50 (by first | decide | assumption)]; exact hv, ?_⟩
    intro x104 hx104
    obtain ⟨yx104, ex104, hp⟩ := gbo_some hp
    obtain rfl : yx104 = x104 := ex104.trans hx104.symm
    refine ⟨arr 38, rfl, ?_⟩
    obtain ⟨hv, hp⟩ := gix_some hp
    refine ⟨by rw [hR.len 38 (by first | decide | assumption)]; exact hv, ?_⟩
    intro o107 ho107
    rw [hR.ref 51 (by decide)] at ho107
    subst ho107
    refine ⟨arr 51, rfl, ?_⟩
    obtain ⟨hv, hp⟩ := gix_some hp
    refine ⟨by rw [hR.len 51 (by first | decide | assumption)]; exact hv, ?_⟩
    obtain ⟨hv, hp⟩ := gix_some hp
    refine ⟨by rw [hR.len 38 (by first | decide | assumption)]; exact hv, ?_⟩
    intro s111 hs111
    have h2 := abs_setA hR 38 (by first | decide | assumption) hs111
    replace hR := hR.setA hs111
    replace hp := gst_up hp h2
    clear h2 hs111
    replace hp := grd_some hp
    intro o112 ho112
    rw [hR.ref 51 (by decide)] at ho112
    subst ho112
    refine ⟨arr 51, rfl, ?_⟩
    obtain ⟨hv, hp⟩ := gix_some hp
    refine ⟨by rw [hR.len 51 (by first | decide | assumption)]; exact hv, ?_⟩
    obtain ⟨u116, w116, he, hp⟩ := gb_some hp
    refine gq_X12_moves hR he (fun s116 hR hw => ?_)
    subst hw
    clear he
    exact hq _ hR hp
set_option maxRecDepth 100000 in
set_option maxHeartbeats 1000000 in
theorem gq_X12_does_144 {a0 : Nat} {arr : Nat → Nat} {r : Unit} {w' : MS} {Q : St → Prop} (hq : ∀ (s : St), RF a0 arr s → gret () (absM a0 arr s) = some (r, w') → Q s) : ∀ (x1 : Int32) (x2 : Int32) (σ : St), RF a0 arr σ → g_X12_does_144 x1 x2 (absM a0 arr σ) = some (r, w') → w_X12_does_144 Q  a0 x1 x2 σ := by
  intro x1 x2 σ hR hp
  unfold g_X12_does_144 at hp
  unfold w_X12_does_144
  replace hp := grd_some hp
  intro o63 ho63
  rw [hR.ref 20 (by decide)] at ho63
  subst ho63
  intro o64 ho64
  rw [hR.ref 48 (by decide)] at ho64
  subst ho64
  refine ⟨arr 48, rfl, ?_⟩
  obtain ⟨hv, hp⟩ := gix_some hp
  refine ⟨by rw [hR.len 48 (by first | decide | assumption)]; exact hv, ?_⟩
  refine ⟨arr 20, rfl, ?_⟩
  obtain ⟨hv, hp⟩ := gix_some hp
  refine ⟨by rw [hR.len 20 (by first | decide | assumption)]; exact hv, ?_⟩
  intro x69 hx69
  obtain ⟨yx69, ex69, hp⟩ := gbo_some hp
  obtain rfl : yx69 = x69 := ex69.trans hx69.symm
  intro o70 ho70
  rw [hR.ref 51 (by decide)] at ho70
  subst ho70
  refine ⟨arr 51, rfl, ?_⟩
  obtain ⟨hv, hp⟩ := gix_some hp
  refine ⟨by rw [hR.len 51 (by first | decide | assumption)]; exact hv, ?_⟩
  refine ⟨fun c => ?_, fun c => ?_⟩
  · replace hp := gif_t hp c
    exact gq_X12_does_195 hq _ _ _ hR hp
  · replace hp := gif_f hp c
    intro o117 ho117
    rw [hR.ref 51 (by decide)] at ho117
    subst ho117
    refine ⟨arr 51, rfl, ?_⟩
    obtain ⟨hv, hp⟩ := gix_some hp
    refine ⟨by rw [hR.len 51 (by first | decide | assumption)]; exact hv, ?_⟩
    intro s120 hs120
    have h2 := abs_setA hR 51 (by first | decide | assumption) hs120
    replace hR := hR.setA hs120
    replace hp := gst_up hp h2
    clear h2 hs120
    replace hp := grd_some hp
    intro o121 ho121
    rw [hR.ref 48 (by decide)] at ho121
    subst ho121
    refine ⟨arr 48, rfl, ?_⟩
    obtain ⟨hv, hp⟩ := gix_some hp
    refine ⟨by rw [hR.len 48 (by first | decide | assumption)]; exact hv, ?_⟩
    obtain ⟨u125, w125, he, hp⟩ := gb_some hp
    refine gq_X12_shorts hR he (fun s125 hR hw => ?_)
    subst hw
    clear he
    obtain ⟨u127, w127, he, hp⟩ := gb_some hp
    refine gq_X12_tidies hR he (fun s127 hR hw => ?_)
    subst hw
    clear he
    exact gq_X12_does_195 hq _ _ _ hR hp
set_option maxRecDepth 100000 in
set_option maxHeartbeats 1000000 in
theorem gq_X12_does {a0 : Nat} {arr : Nat → Nat} {σ : St} {x1 : Int32} (hR : RF a0 arr σ) {r : Unit} {w' : MS} (hp : g_X12_does x1 (absM a0 arr σ) = some (r, w')) {Q : St → Prop} (hq : ∀ (s : St), RF a0 arr s → absM a0 arr s = w' → Q s) : w_X12_does a0 x1 σ Q := by
  replace hq : ∀ (s : St), RF a0 arr s → gret () (absM a0 arr s) = some (r, w') → Q s := fun s hR e => by obtain ⟨rfl, hw⟩ := gret_some e; exact hq s hR hw
  unfold g_X12_does at hp
  unfold w_X12_does
  replace hp := grd_some hp
  intro o51 ho51
  rw [hR.ref 47 (by decide)] at ho51
  subst ho51
  refine ⟨arr 47, rfl, ?_⟩
  obtain ⟨hv, hp⟩ := gix_some hp
  refine ⟨by rw [hR.len 47 (by first | decide | assumption)]; exact hv, ?_⟩
  intro x54 hx54
  obtain ⟨yx54, ex54, hp⟩ := gbo_some hp
  obtain rfl : yx54 = x54 := ex54.trans hx54.symm
  intro o55 ho55
  rw [hR.ref 46 (by decide)] at ho55
  subst ho55
  refine ⟨arr 46, rfl, ?_⟩
  obtain ⟨hv, hp⟩ := gix_some hp
  refine ⟨by rw [hR.len 46 (by first | decide | assumption)]; exact hv, ?_⟩
  refine ⟨fun c => ?_, fun c => ?_⟩
  · replace hp := gif_f hp c
    intro o59 ho59
    rw [hR.ref 46 (by decide)] at ho59
    subst ho59
    refine ⟨arr 46, rfl, ?_⟩
    obtain ⟨hv, hp⟩ := gix_some hp
    refine ⟨by rw [hR.len 46 (by first | decide | assumption)]; exact hv, ?_⟩
    refine ⟨fun c => ?_, fun c => ?_⟩
    · replace hp := gif_f hp c
      exact gq_X12_does_144 hq _ _ _ hR hp
    · replace hp := gif_t hp c
      intro o128 ho128
      rw [hR.ref 54 (by decide)] at ho128
      subst ho128
      refine ⟨arr 54, rfl, ?_⟩
      obtain ⟨hv, hp⟩ := gix_some hp
      refine ⟨by rw [hR.len 54 (by first | decide | assumption)]; exact hv, ?_⟩
      refine ⟨fun c => ?_, fun c => ?_⟩
      · replace hp := gif_t hp c
        exact gq_X12_does_144 hq _ _ _ hR hp
      · replace hp := gif_f hp c
        intro o132 ho132
        rw [hR.ref 51 (by decide)] at ho132
        subst ho132
        refine ⟨arr 51, rfl, ?_⟩
        obtain ⟨hv, hp⟩ := gix_some hp
        refine ⟨by rw [hR.len 51 (by first | decide | assumption)]; exact hv, ?_⟩
        intro o135 ho135
        rw [hR.ref 20 (by decide)] at ho135
        subst ho135
        intro o136 ho136
        rw [hR.ref 48 (by decide)] at ho136
        subst ho136
        refine ⟨arr 48, rfl, ?_⟩
        obtain ⟨hv, hp⟩ := gix_some hp
        refine ⟨by rw [hR.len 48 (by first | decide | assumption)]; exact hv, ?_⟩
        refine ⟨arr 20, rfl, ?_⟩
        obtain ⟨hv, hp⟩ := gix_some hp
        refine ⟨by rw [hR.len 20 (by first | decide | assumption)]; exact hv, ?_⟩
        obtain ⟨x141, w142, he, hp⟩ := gb_some hp
        refine gq_X12_less hR he (fun s142 hR hw => ?_)
        subst hw
        clear he
        replace hp := grd_some hp
        intro o143 ho143
        rw [hR.ref 20 (by decide)] at ho143
        subst ho143
        intro o144 ho144
        rw [hR.ref 48 (by decide)] at ho144
        subst ho144
        refine ⟨arr 48, rfl, ?_⟩
        obtain ⟨hv, hp⟩ := gix_some hp
        refine ⟨by rw [hR.len 48 (by first | decide | assumption)]; exact hv, ?_⟩
        intro x147 hx147
        obtain ⟨yx147, ex147, hp⟩ := gbo_some hp
        obtain rfl : yx147 = x147 := ex147.trans hx147.symm
        refine ⟨arr 20, rfl, ?_⟩
        obtain ⟨hv, hp⟩ := gix_some hp
        refine ⟨by rw [hR.len 20 (by first | decide | assumption)]; exact hv, ?_⟩
        obtain ⟨hv, hp⟩ := gix_some hp
        refine ⟨by rw [hR.len 20 (by first | decide | assumption)]; exact hv, ?_⟩
        intro s151 hs151
        have h2 := abs_setA hR 20 (by first | decide | assumption) hs151
        replace hR := hR.setA hs151
        replace hp := gst_up hp h2
        clear h2 hs151
        replace hp := grd_some hp
        intro o152 ho152
        rw [hR.ref 20 (by decide)] at ho152
        subst ho152
        intro o153 ho153
        rw [hR.ref 49 (by decide)] at ho153
        subst ho153
        refine ⟨arr 49, rfl, ?_⟩
        obtain ⟨hv, hp⟩ := gix_some hp
        refine ⟨by rw [hR.len 49 (by first | decide | assumption)]; exact hv, ?_⟩
        intro x156 hx156
        obtain ⟨yx156, ex156, hp⟩ := gbo_some hp
        obtain rfl : yx156 = x156 := ex156.trans hx156.symm
        refine ⟨arr 20, rfl, ?_⟩
        obtain ⟨hv, hp⟩ := gix_some hp
        refine ⟨by rw [hR.len 20 (by first | decide | assumption)]; exact hv, ?_⟩
        obtain ⟨hv, hp⟩ := gix_some hp
        refine ⟨by rw [hR.len 20 (by first | decide | assumption)]; exact hv, ?_⟩
        intro s160 hs160
        have h2 := abs_setA hR 20 (by first | decide | assumption) hs160
        replace hR := hR.setA hs160
        replace hp := gst_up hp h2
        clear h2 hs160
        obtain ⟨u162, w162, he, hp⟩ := gb_some hp
        refine gq_X12_moves hR he (fun s162 hR hw => ?_)
        subst hw
        clear he
        exact hq _ hR hp
  · replace hp := gif_t hp c
    intro o163 ho163
    rw [hR.ref 20 (by decide)] at ho163
    subst ho163
    intro o164 ho164
    rw [hR.ref 49 (by decide)] at ho164
    subst ho164
    refine ⟨arr 49, rfl, ?_⟩
    obtain ⟨hv, hp⟩ := gix_some hp
    refine ⟨by rw [hR.len 49 (by first | decide | assumption)]; exact hv, ?_⟩
    intro x167 hx167
    obtain ⟨yx167, ex167, hp⟩ := gbo_some hp
    obtain rfl : yx167 = x167 := ex167.trans hx167.symm
    refine ⟨arr 20, rfl, ?_⟩
    obtain ⟨hv, hp⟩ := gix_some hp
    refine ⟨by rw [hR.len 20 (by first | decide | assumption)]; exact hv, ?_⟩
    intro o170 ho170
    rw [hR.ref 51 (by decide)] at ho170
    subst ho170
    refine ⟨arr 51, rfl, ?_⟩
    obtain ⟨hv, hp⟩ := gix_some hp
    refine ⟨by rw [hR.len 51 (by first | decide | assumption)]; exact hv, ?_⟩
    obtain ⟨hv, hp⟩ := gix_some hp
    refine ⟨by rw [hR.len 20 (by first | decide | assumption)]; exact hv, ?_⟩
    intro s174 hs174
    have h2 := abs_setA hR 20 (by first | decide | assumption) hs174
    replace hR := hR.setA hs174
    replace hp := gst_up hp h2
    clear h2 hs174
    obtain ⟨u176, w176, he, hp⟩ := gb_some hp
    refine gq_X12_moves hR he (fun s176 hR hw => ?_)
    subst hw
    clear he
    exact hq _ hR hp
set_option maxRecDepth 100000 in
set_option maxHeartbeats 1000000 in
theorem gq_X12_face_136 {a0 : Nat} {arr : Nat → Nat} {r : Unit} {w' : MS} {Q : St → Prop} (hq : ∀ (s : St), RF a0 arr s → gret () (absM a0 arr s) = some (r, w') → Q s) : ∀ (x1 : Int32) (x2 : Int32) (x3 : Int32) (x4 : Int32) (xs1 : Int32) (σ : St), RF a0 arr σ → g_X12_face_136 x1 x2 x3 x4 xs1 (absM a0 arr σ) = some (r, w') → w_X12_face_136 Q  a0 x1 x2 x3 x4 a0 xs1 σ := by
  intro x1 x2 x3 x4 xs1 σ hR hp
  unfold g_X12_face_136 at hp
  unfold w_X12_face_136
  obtain ⟨x62, w63, he, hp⟩ := gb_some hp
  refine gq_X12_holds hR he (fun s63 hR hw => ?_)
  subst hw
  clear he
  refine ⟨fun c => ?_, fun c => ?_⟩
  · replace hp := gif_t hp c
    exact hq _ hR hp
  · replace hp := gif_f hp c
    intro o65 ho65
    rw [hR.ref 6 (by decide)] at ho65
    subst ho65
    refine ⟨arr 6, rfl, ?_⟩
    obtain ⟨hv, hp⟩ := gix_some hp
    refine ⟨by rw [hR.len 6 (by first | decide | assumption)]; exact hv, ?_⟩
    intro s68 hs68
    have h2 := abs_setA hR 6 (by first | decide | assumption) hs68
    replace hR := hR.setA hs68
    replace hp := gst_up hp h2
    clear h2 hs68
    intro o69 ho69
    rw [hR.ref 7 (by decide)] at ho69
    subst ho69
    refine ⟨arr 7, rfl, ?_⟩
    obtain ⟨hv, hp⟩ := gix_some hp
    refine ⟨by rw [hR.len 7 (by first | decide | assumption)]; exact hv, ?_⟩
    intro s72 hs72
    have h2 := abs_setA hR 7 (by first | decide | assumption) hs72
    replace hR := hR.setA hs72
    replace hp := gst_up hp h2
    clear h2 hs72
    intro o73 ho73
    rw [hR.ref 8 (by decide)] at ho73
    subst ho73
    refine ⟨arr 8, rfl, ?_⟩
    obtain ⟨hv, hp⟩ := gix_some hp
    refine ⟨by rw [hR.len 8 (by first | decide | assumption)]; exact hv, ?_⟩
    intro s76 hs76
    have h2 := abs_setA hR 8 (by first | decide | assumption) hs76
    replace hR := hR.setA hs76
    replace hp := gst_up hp h2
    clear h2 hs76
    exact hq _ hR hp
set_option maxRecDepth 100000 in
set_option maxHeartbeats 1000000 in
theorem gq_X12_face_105 {a0 : Nat} {arr : Nat → Nat} {r : Unit} {w' : MS} {Q : St → Prop} (hq : ∀ (s : St), RF a0 arr s → gret () (absM a0 arr s) = some (r, w') → Q s) : ∀ (x1 : Int32) (x2 : Int32) (x3 : Int32) (x4 : Int32) (x5 : Int32) (x7 : Int32) (xs0 : Int32) (σ : St), RF a0 arr σ → g_X12_face_105 x1 x2 x3 x4 x5 x7 xs0 (absM a0 arr σ) = some (r, w') → w_X12_face_105 Q  a0 x1 x2 x3 x4 x5 x7 xs0 σ := by
  intro x1 x2 x3 x4 x5 x7 xs0 σ hR hp
  unfold g_X12_face_105 at hp
  unfold w_X12_face_105
  refine ⟨fun c => ?_, fun c => ?_⟩
  · replace hp := gif_f hp c
    refine ⟨fun c => ?_, fun c => ?_⟩
    · replace hp := gif_f hp c
      refine ⟨fun c => ?_, fun c => ?_⟩
      · replace hp := gif_t hp c
        exact gq_X12_face_136 hq _ _ _ _ _ _ hR hp
      · replace hp := gif_f hp c
        exact gq_X12_face_136 hq _ _ _ _ _ _ hR hp
    · replace hp := gif_t hp c
      exact gq_X12_face_136 hq _ _ _ _ _ _ hR hp
  · replace hp := gif_t hp c
    exact gq_X12_face_136 hq _ _ _ _ _ _ hR hp
set_option maxRecDepth 100000 in
set_option maxHeartbeats 1000000 in
theorem gq_X12_face_104 {a0 : Nat} {arr : Nat → Nat} {r : Unit} {w' : MS} {Q : St → Prop} (hq : ∀ (s : St), RF a0 arr s → gret () (absM a0 arr s) = some (r, w') → Q s) : ∀ (x1 : Int32) (x2 : Int32) (x3 : Int32) (x4 : Int32) (x5 : Int32) (x7 : Int32) (σ : St), RF a0 arr σ → g_X12_face_104 x1 x2 x3 x4 x5 x7 (absM a0 arr σ) = some (r, w') → w_X12_face_104 Q  a0 x1 x2 x3 x4 x5 x7 σ := by
  intro x1 x2 x3 x4 x5 x7 σ hR hp
  unfold g_X12_face_104 at hp
  unfold w_X12_face_104
  exact gq_X12_face_105 hq _ _ _ _ _ _ _ _ hR hp
set_option maxRecDepth 100000 in
set_option maxHeartbeats 1000000 in
theorem gq_X12_face_65 {a0 : Nat} {arr : Nat → Nat} {r : Unit} {w' : MS} {Q : St → Prop} (hq : ∀ (s : St), RF a0 arr s → gret () (absM a0 arr s) = some (r, w') → Q s) : ∀ (x1 : Int32) (x2 : Int32) (x3 : Int32) (x4 : Int32) (x5 : Int32) (xs0 : Int32) (σ : St), RF a0 arr σ → g_X12_face_65 x1 x2 x3 x4 x5 xs0 (absM a0 arr σ) = some (r, w') → w_X12_face_65 Q  a0 x1 x2 x3 x4 x5 xs0 σ := by
  intro x1 x2 x3 x4 x5 xs0 σ hR hp
  unfold g_X12_face_65 at hp
  unfold w_X12_face_65
  refine ⟨fun c => ?_, fun c => ?_⟩
  · replace hp := gif_t hp c
    exact gq_X12_face_104 hq _ _ _ _ _ _ _ hR hp
  · replace hp := gif_f hp c
    obtain ⟨x77, w78, he, hp⟩ := gb_some hp
    refine gq_X12_isEmpty hR he (fun s78 hR hw => ?_)
    subst hw
    clear he
    replace hp := grd_some hp
    refine ⟨fun c => ?_, fun c => ?_⟩
    · replace hp := gif_t hp c
      exact gq_X12_face_104 hq _ _ _ _ _ _ _ hR hp
    · replace hp := gif_f hp c
      refine ⟨fun c => ?_, fun c => ?_⟩
      · replace hp := gif_t hp c
        exact gq_X12_face_105 hq _ _ _ _ _ _ _ _ hR hp
      · replace hp := gif_f hp c
        intro o81 ho81
        rw [hR.ref 9 (by decide)] at ho81
        subst ho81
        refine ⟨arr 9, rfl, ?_⟩
        obtain ⟨hv, hp⟩ := gix_some hp
        refine ⟨by rw [hR.len 9 (by first | decide | assumption)]; exact hv, ?_⟩
        intro o84 ho84
        rw [hR.ref 4 (by decide)] at ho84
        subst ho84
        refine ⟨arr 4, rfl, ?_⟩
        obtain ⟨hv, hp⟩ := gix_some hp
        refine ⟨by rw [hR.len 4 (by first | decide | assumption)]; exact hv, ?_⟩
        refine ⟨fun c => ?_, fun c => ?_⟩
        · replace hp := gif_f hp c
          exact gq_X12_face_104 hq _ _ _ _ _ _ _ hR hp
        · replace hp := gif_t hp c
          exact gq_X12_face_105 hq _ _ _ _ _ _ _ _ hR hp
set_option maxRecDepth 100000 in
set_option maxHeartbeats 1000000 in
theorem gq_X12_face_64 {a0 : Nat} {arr : Nat → Nat} {r : Unit} {w' : MS} {Q : St → Prop} (hq : ∀ (s : St), RF a0 arr s → gret () (absM a0 arr s) = some (r, w') → Q s) : ∀ (x1 : Int32) (x2 : Int32) (x3 : Int32) (x4 : Int32) (x5 : Int32) (σ : St), RF a0 arr σ → g_X12_face_64 x1 x2 x3 x4 x5 (absM a0 arr σ) = some (r, w') → w_X12_face_64 Q  a0 x1 x2 x3 x4 x5 σ := by
  intro x1 x2 x3 x4 x5 σ hR hp
  unfold g_X12_face_64 at hp
  unfold w_X12_face_64
  exact gq_X12_face_65 hq _ _ _ _ _ _ _ hR hp
set_option maxRecDepth 100000 in
set_option maxHeartbeats 1000000 in
theorem gq_X12_face_37 {a0 : Nat} {arr : Nat → Nat} {r : Unit} {w' : MS} {Q : St → Prop} (hq : ∀ (s : St), RF a0 arr s → gret () (absM a0 arr s) = some (r, w') → Q s) : ∀ (x1 : Int32) (x2 : Int32) (x3 : Int32) (x4 : Int32) (x5 : Int32) (xs0 : Int32) (σ : St), RF a0 arr σ → g_X12_face_37 x1 x2 x3 x4 x5 xs0 (absM a0 arr σ) = some (r, w') → w_X12_face_37 Q  a0 x1 x2 x3 x4 x5 xs0 σ := by
  intro x1 x2 x3 x4 x5 xs0 σ hR hp
  unfold g_X12_face_37 at hp
  unfold w_X12_face_37
  obtain ⟨x55, w56, he, hp⟩ := gb_some hp
  refine gq_X12_isIn hR he (fun s56 hR hw => ?_)
  subst hw
  clear he
  refine ⟨fun c => ?_, fun c => ?_⟩
  · replace hp := gif_t hp c
    exact gq_X12_face_64 hq _ _ _ _ _ _ hR hp
  · replace hp := gif_f hp c
    obtain ⟨x88, w89, he, hp⟩ := gb_some hp
    refine gq_X12_isIn hR he (fun s89 hR hw => ?_)
    subst hw
    clear he
    refine ⟨fun c => ?_, fun c => ?_⟩
    · replace hp := gif_t hp c
      exact gq_X12_face_64 hq _ _ _ _ _ _ hR hp
    · replace hp := gif_f hp c
      exact gq_X12_face_65 hq _ _ _ _ _ _ _ hR hp
set_option maxRecDepth 100000 in
set_option maxHeartbeats 1000000 in
theorem gq_X12_face_24 {a0 : Nat} {arr : Nat → Nat} {r : Unit} {w' : MS} {Q : St → Prop} (hq : ∀ (s : St), RF a0 arr s → gret () (absM a0 arr s) = some (r, w') → Q s) : ∀ (x1 : Int32) (x2 : Int32) (x3 : Int32) (x4 : Int32) (xs0 : Int32) (σ : St), RF a0 arr σ → g_X12_face_24 x1 x2 x3 x4 xs0 (absM a0 arr σ) = some (r, w') → w_X12_face_24 Q  a0 x1 x2 x3 x4 xs0 σ := by
  intro x1 x2 x3 x4 xs0 σ hR hp
  unfold g_X12_face_24 at hp
  unfold w_X12_face_24
  refine ⟨fun c => ?_, fun c => ?_⟩
  · replace hp := gif_f hp c
    exact gq_X12_face_37 hq _ _ _ _ _ _ _ hR hp
  · replace hp := gif_t hp c
    exact gq_X12_face_37 hq _ _ _ _ _ _ _ hR hp
set_option maxRecDepth 100000 in
set_option maxHeartbeats 1000000 in
theorem gq_X12_face_23 {a0 : Nat} {arr : Nat → Nat} {r : Unit} {w' : MS} {Q : St → Prop} (hq : ∀ (s : St), RF a0 arr s → gret () (absM a0 arr s) = some (r, w') → Q s) : ∀ (x1 : Int32) (x2 : Int32) (x3 : Int32) (x4 : Int32) (σ : St), RF a0 arr σ → g_X12_face_23 x1 x2 x3 x4 (absM a0 arr σ) = some (r, w') → w_X12_face_23 Q  a0 x1 x2 x3 x4 σ := by
  intro x1 x2 x3 x4 σ hR hp
  unfold g_X12_face_23 at hp
  unfold w_X12_face_23
  exact gq_X12_face_24 hq _ _ _ _ _ _ hR hp
set_option maxRecDepth 100000 in
set_option maxHeartbeats 1000000 in
theorem gq_X12_face {a0 : Nat} {arr : Nat → Nat} {σ : St} {x1 : Int32} {x2 : Int32} {x3 : Int32} {x4 : Int32} (hR : RF a0 arr σ) {r : Unit} {w' : MS} (hp : g_X12_face x1 x2 x3 x4 (absM a0 arr σ) = some (r, w')) {Q : St → Prop} (hq : ∀ (s : St), RF a0 arr s → absM a0 arr s = w' → Q s) : w_X12_face a0 x1 x2 x3 x4 σ Q := by
  replace hq : ∀ (s : St), RF a0 arr s → gret () (absM a0 arr s) = some (r, w') → Q s := fun s hR e => by obtain ⟨rfl, hw⟩ := gret_some e; exact hq s hR hw
  unfold g_X12_face at hp
  unfold w_X12_face
  obtain ⟨x51, w52, he, hp⟩ := gb_some hp
  refine gq_X12_isSlot hR he (fun s52 hR hw => ?_)
  subst hw
  clear he
  refine ⟨fun c => ?_, fun c => ?_⟩
  · replace hp := gif_t hp c
    exact gq_X12_face_23 hq _ _ _ _ _ hR hp
  · replace hp := gif_f hp c
    refine ⟨fun c => ?_, fun c => ?_⟩
    · replace hp := gif_t hp c
      exact gq_X12_face_24 hq _ _ _ _ _ _ hR hp
    · replace hp := gif_f hp c
      obtain ⟨x92, w93, he, hp⟩ := gb_some hp
      refine gq_X12_isItem hR he (fun s93 hR hw => ?_)
      subst hw
      clear he
      refine ⟨fun c => ?_, fun c => ?_⟩
      · replace hp := gif_t hp c
        exact gq_X12_face_23 hq _ _ _ _ _ hR hp
      · replace hp := gif_f hp c
        exact gq_X12_face_24 hq _ _ _ _ _ _ hR hp
set_option maxRecDepth 100000 in
set_option maxHeartbeats 1000000 in
theorem gq_X12_free {a0 : Nat} {arr : Nat → Nat} {σ : St} {x1 : Int32} {x2 : Int32} (hR : RF a0 arr σ) {r : Int32} {w' : MS} (hp : g_X12_free x1 x2 (absM a0 arr σ) = some (r, w')) {Q : Int32 → St → Prop} (hq : ∀ (s : St), RF a0 arr s → absM a0 arr s = w' → Q r s) : w_X12_free a0 x1 x2 σ Q := by
  replace hq : ∀ (s : St) (x : Int32), RF a0 arr s → gret x (absM a0 arr s) = some (r, w') → Q x s := fun s x hR e => by obtain ⟨rfl, hw⟩ := gret_some e; exact hq s hR hw
  unfold g_X12_free at hp
  unfold w_X12_free
  obtain ⟨x51, w52, he, hp⟩ := gb_some hp
  refine gq_X12_isAsked hR he (fun s52 hR hw => ?_)
  subst hw
  clear he
  refine ⟨fun c => ?_, fun c => ?_⟩
  · replace hp := gif_t hp c
    exact hq _ _ hR hp
  · replace hp := gif_f hp c
    obtain ⟨x54, w55, he, hp⟩ := gb_some hp
    refine gq_X12_freeAt hR he (fun s55 hR hw => ?_)
    subst hw
    clear he
    exact hq _ _ hR hp
set_option maxRecDepth 100000 in
set_option maxHeartbeats 1000000 in
theorem gq_X12_holdsFor_219 {a0 : Nat} {arr : Nat → Nat} {r : Int32} {w' : MS} {Q : Int32 → St → Prop} (hq : ∀ (s : St) (x : Int32), RF a0 arr s → gret x (absM a0 arr s) = some (r, w') → Q x s) {K33 : Nat → Int32 → Int32 → Int32 → Int32 → Int32 → Int32 → St → Prop} {LK33 : Int32 → Int32 → Int32 → Int32 → Int32 → Int32 → GM (Int32)} (hK33 : ∀ (y1 : Int32) (y2 : Int32) (y3 : Int32) (y4 : Int32) (y5 : Int32) (y6 : Int32) (y7 : St), RF a0 arr y7 → LK33 y1 y2 y3 y4 y5 y6 (absM a0 arr y7) = some (r, w') → K33 a0 y1 y2 y3 y4 y5 y6 y7) : ∀ (x1 : Int32) (x3 : Int32) (x4 : Int32) (x5 : Int32) (x6 : Int32) (x7 : Int32) (σ : St), RF a0 arr σ → g_X12_holdsFor_219 LK33 x1 x3 x4 x5 x6 x7 (absM a0 arr σ) = some (r, w') → w_X12_holdsFor_219 Q K33 a0 x1 x3 x4 x5 x6 x7 σ := by
  intro x1 x3 x4 x5 x6 x7 σ hR hp
  unfold g_X12_holdsFor_219 at hp
  unfold w_X12_holdsFor_219
  obtain ⟨x69, w70, he, hp⟩ := gb_some hp
  refine gq_X12_nextLot hR he (fun s70 hR hw => ?_)
  subst hw
  clear he
  exact hK33 _ _ _ _ _ _ _ hR hp
set_option maxRecDepth 100000 in
set_option maxHeartbeats 1000000 in
theorem gq_X12_holdsFor_117 {a0 : Nat} {arr : Nat → Nat} {r : Int32} {w' : MS} {Q : Int32 → St → Prop} (hq : ∀ (s : St) (x : Int32), RF a0 arr s → gret x (absM a0 arr s) = some (r, w') → Q x s) {K33 : Nat → Int32 → Int32 → Int32 → Int32 → Int32 → Int32 → St → Prop} {LK33 : Int32 → Int32 → Int32 → Int32 → Int32 → Int32 → GM (Int32)} (hK33 : ∀ (y1 : Int32) (y2 : Int32) (y3 : Int32) (y4 : Int32) (y5 : Int32) (y6 : Int32) (y7 : St), RF a0 arr y7 → LK33 y1 y2 y3 y4 y5 y6 (absM a0 arr y7) = some (r, w') → K33 a0 y1 y2 y3 y4 y5 y6 y7) {K70 : Nat → Int32 → Int32 → Int32 → Int32 → Int32 → Int32 → Int32 → Int32 → St → Prop} {LK70 : Int32 → Int32 → Int32 → Int32 → Int32 → Int32 → Int32 → Int32 → GM (Int32)} (hK70 : ∀ (y1 : Int32) (y2 : Int32) (y3 : Int32) (y4 : Int32) (y5 : Int32) (y6 : Int32) (y7 : Int32) (y8 : Int32) (y9 : St), RF a0 arr y9 → LK70 y1 y2 y3 y4 y5 y6 y7 y8 (absM a0 arr y9) = some (r, w') → K70 a0 y1 y2 y3 y4 y5 y6 y7 y8 y9) : ∀ (x1 : Int32) (x3 : Int32) (x4 : Int32) (x5 : Int32) (x6 : Int32) (x7 : Int32) (x8 : Int32) (x9 : Int32) (x10 : Int32) (xs0 : Int32) (xs1 : Int32) (σ : St), RF a0 arr σ → g_X12_holdsFor_117 LK33 LK70 x1 x3 x4 x5 x6 x7 x8 x9 x10 xs0 xs1 (absM a0 arr σ) = some (r, w') → w_X12_holdsFor_117 Q K33 K70 a0 x1 x3 x4 x5 x6 x7 x8 x9 x10 xs0 xs1 σ := by
  intro x1 x3 x4 x5 x6 x7 x8 x9 x10 xs0 xs1 σ hR hp
  unfold g_X12_holdsFor_117 at hp
  unfold w_X12_holdsFor_117
  refine ⟨fun c => ?_, fun c => ?_⟩
  · replace hp := gif_f hp c
    exact hK70 _ _ _ _ _ _ _ _ _ hR hp
  · replace hp := gif_t hp c
    obtain ⟨x79, w80, he, hp⟩ := gb_some hp
    refine gq_X12_freeAt hR he (fun s80 hR hw => ?_)
    subst hw
    clear he
    obtain ⟨x81, w82, he, hp⟩ := gb_some hp
    refine gq_X12_less hR he (fun s82 hR hw => ?_)
    subst hw
    clear he
    replace hp := grd_some hp
    refine ⟨fun c => ?_, fun c => ?_⟩
    · replace hp := gif_t hp c
      exact hK70 _ _ _ _ _ _ _ _ _ hR hp
    · replace hp := gif_f hp c
      intro o84 ho84
      rw [hR.ref 40 (by decide)] at ho84
      subst ho84
      refine ⟨arr 40, rfl, ?_⟩
      obtain ⟨hv, hp⟩ := gix_some hp
      refine ⟨by rw [hR.len 40 (by first | decide | assumption)]; exact hv, ?_⟩
      intro s87 hs87
      have h2 := abs_setA hR 40 (by first | decide | assumption) hs87
      replace hR := hR.setA hs87
      replace hp := gst_up hp h2
      clear h2 hs87
      replace hp := grd_some hp
      intro o88 ho88
      rw [hR.ref 41 (by decide)] at ho88
      subst ho88
      refine ⟨arr 41, rfl, ?_⟩
      obtain ⟨hv, hp⟩ := gix_some hp
      refine ⟨by rw [hR.len 41 (by first | decide | assumption)]; exact hv, ?_⟩
      intro s91 hs91
      have h2 := abs_setA hR 41 (by first | decide | assumption) hs91
      replace hR := hR.setA hs91
      replace hp := gst_up hp h2
      clear h2 hs91
      replace hp := grd_some hp
      intro o92 ho92
      rw [hR.ref 42 (by decide)] at ho92
      subst ho92
      refine ⟨arr 42, rfl, ?_⟩
      obtain ⟨hv, hp⟩ := gix_some hp
      refine ⟨by rw [hR.len 42 (by first | decide | assumption)]; exact hv, ?_⟩
      intro s95 hs95
      have h2 := abs_setA hR 42 (by first | decide | assumption) hs95
      replace hR := hR.setA hs95
      replace hp := gst_up hp h2
      clear h2 hs95
      replace hp := grd_some hp
      intro o96 ho96
      rw [hR.ref 43 (by decide)] at ho96
      subst ho96
      refine ⟨arr 43, rfl, ?_⟩
      obtain ⟨hv, hp⟩ := gix_some hp
      refine ⟨by rw [hR.len 43 (by first | decide | assumption)]; exact hv, ?_⟩
      intro s99 hs99
      have h2 := abs_setA hR 43 (by first | decide | assumption) hs99
      replace hR := hR.setA hs99
      replace hp := gst_up hp h2
      clear h2 hs99
      replace hp := grd_some hp
      intro o100 ho100
      rw [hR.ref 44 (by decide)] at ho100
      subst ho100
      refine ⟨arr 44, rfl, ?_⟩
      obtain ⟨hv, hp⟩ := gix_some hp
      refine ⟨by rw [hR.len 44 (by first | decide | assumption)]; exact hv, ?_⟩
      intro s103 hs103
      have h2 := abs_setA hR 44 (by first | decide | assumption) hs103
      replace hR := hR.setA hs103
      replace hp := gst_up hp h2
      clear h2 hs103
      replace hp := grd_some hp
      intro s104 hs104
      have h2 := abs_setI (arr := arr) 39 (by decide) hs104
      replace hR := hR.setI hs104
      replace hp := gst_up hp h2
      clear h2 hs104
      intro x105 hx105
      obtain ⟨yx105, ex105, hp⟩ := gbo_some hp
      obtain rfl : yx105 = x105 := ex105.trans hx105.symm
      exact hK70 _ _ _ _ _ _ _ _ _ hR hp
set_option maxRecDepth 100000 in
set_option maxHeartbeats 1000000 in
theorem gq_X12_holdsFor_101 {a0 : Nat} {arr : Nat → Nat} {r : Int32} {w' : MS} {Q : Int32 → St → Prop} (hq : ∀ (s : St) (x : Int32), RF a0 arr s → gret x (absM a0 arr s) = some (r, w') → Q x s) {K33 : Nat → Int32 → Int32 → Int32 → Int32 → Int32 → Int32 → St → Prop} {LK33 : Int32 → Int32 → Int32 → Int32 → Int32 → Int32 → GM (Int32)} (hK33 : ∀ (y1 : Int32) (y2 : Int32) (y3 : Int32) (y4 : Int32) (y5 : Int32) (y6 : Int32) (y7 : St), RF a0 arr y7 → LK33 y1 y2 y3 y4 y5 y6 (absM a0 arr y7) = some (r, w') → K33 a0 y1 y2 y3 y4 y5 y6 y7) {K70 : Nat → Int32 → Int32 → Int32 → Int32 → Int32 → Int32 → Int32 → Int32 → St → Prop} {LK70 : Int32 → Int32 → Int32 → Int32 → Int32 → Int32 → Int32 → Int32 → GM (Int32)} (hK70 : ∀ (y1 : Int32) (y2 : Int32) (y3 : Int32) (y4 : Int32) (y5 : Int32) (y6 : Int32) (y7 : Int32) (y8 : Int32) (y9 : St), RF a0 arr y9 → LK70 y1 y2 y3 y4 y5 y6 y7 y8 (absM a0 arr y9) = some (r, w') → K70 a0 y1 y2 y3 y4 y5 y6 y7 y8 y9) : ∀ (x1 : Int32) (x3 : Int32) (x4 : Int32) (x5 : Int32) (x6 : Int32) (x7 : Int32) (x8 : Int32) (x9 : Int32) (x10 : Int32) (xs0 : Int32) (σ : St), RF a0 arr σ → g_X12_holdsFor_101 LK33 LK70 x1 x3 x4 x5 x6 x7 x8 x9 x10 xs0 (absM a0 arr σ) = some (r, w') → w_X12_holdsFor_101 Q K33 K70 a0 x1 x3 x4 x5 x6 x7 x8 x9 x10 xs0 σ := by
  intro x1 x3 x4 x5 x6 x7 x8 x9 x10 xs0 σ hR hp
  unfold g_X12_holdsFor_101 at hp
  unfold w_X12_holdsFor_101
  replace hp := grd_some hp
  intro o74 ho74
  rw [hR.ref 6 (by decide)] at ho74
  subst ho74
  refine ⟨arr 6, rfl, ?_⟩
  obtain ⟨hv, hp⟩ := gix_some hp
  refine ⟨by rw [hR.len 6 (by first | decide | assumption)]; exact hv, ?_⟩
  refine ⟨fun c => ?_, fun c => ?_⟩
  · replace hp := gif_t hp c
    exact gq_X12_holdsFor_117 hq hK33 hK70 _ _ _ _ _ _ _ _ _ _ _ _ hR hp
  · replace hp := gif_f hp c
    exact gq_X12_holdsFor_117 hq hK33 hK70 _ _ _ _ _ _ _ _ _ _ _ _ hR hp
set_option maxRecDepth 100000 in
set_option maxHeartbeats 1000000 in
theorem gq_X12_holdsFor_70 {a0 : Nat} {arr : Nat → Nat} {r : Int32} {w' : MS} {Q : Int32 → St → Prop} (hq : ∀ (s : St) (x : Int32), RF a0 arr s → gret x (absM a0 arr s) = some (r, w') → Q x s) {K33 : Nat → Int32 → Int32 → Int32 → Int32 → Int32 → Int32 → St → Prop} {LK33 : Int32 → Int32 → Int32 → Int32 → Int32 → Int32 → GM (Int32)} (hK33 : ∀ (y1 : Int32) (y2 : Int32) (y3 : Int32) (y4 : Int32) (y5 : Int32) (y6 : Int32) (y7 : St), RF a0 arr y7 → LK33 y1 y2 y3 y4 y5 y6 (absM a0 arr y7) = some (r, w') → K33 a0 y1 y2 y3 y4 y5 y6 y7) : ∀ (f : Nat) (x1 : Int32) (x3 : Int32) (x4 : Int32) (x5 : Int32) (x6 : Int32) (x7 : Int32) (x8 : Int32) (x9 : Int32) (σ : St), RF a0 arr σ → g_X12_holdsFor_70 LK33 f x1 x3 x4 x5 x6 x7 x8 x9 (absM a0 arr σ) = some (r, w') → w_X12_holdsFor_70 Q K33 f a0 x1 x3 x4 x5 x6 x7 x8 x9 σ := by
  intro f
  induction f with
  | zero => intro x1 x3 x4 x5 x6 x7 x8 x9 σ hR hp; cases hp
  | succ f ih =>
    intro x1 x3 x4 x5 x6 x7 x8 x9 σ hR hp
    unfold g_X12_holdsFor_70 at hp
    unfold w_X12_holdsFor_70
    refine ⟨fun c => ?_, fun c => ?_⟩
    · replace hp := gif_t hp c
      exact gq_X12_holdsFor_219 hq hK33 _ _ _ _ _ _ _ hR hp
    · replace hp := gif_f hp c
      refine ⟨fun c => ?_, fun c => ?_⟩
      · replace hp := gif_t hp c
        exact gq_X12_holdsFor_219 hq hK33 _ _ _ _ _ _ _ hR hp
      · replace hp := gif_f hp c
        intro x72 hx72
        obtain ⟨yx72, ex72, hp⟩ := gbo_some hp
        obtain rfl : yx72 = x72 := ex72.trans hx72.symm
        refine ⟨fun c => ?_, fun c => ?_⟩
        · replace hp := gif_t hp c
          exact gq_X12_holdsFor_101 hq hK33 ih _ _ _ _ _ _ _ _ _ _ _ hR hp
        · replace hp := gif_f hp c
          exact gq_X12_holdsFor_101 hq hK33 ih _ _ _ _ _ _ _ _ _ _ _ hR hp
set_option maxRecDepth 100000 in
set_option maxHeartbeats 1000000 in
theorem gq_X12_holdsFor_33 {a0 : Nat} {arr : Nat → Nat} {r : Int32} {w' : MS} {Q : Int32 → St → Prop} (hq : ∀ (s : St) (x : Int32), RF a0 arr s → gret x (absM a0 arr s) = some (r, w') → Q x s) : ∀ (f : Nat) (x1 : Int32) (x3 : Int32) (x4 : Int32) (x5 : Int32) (x6 : Int32) (x7 : Int32) (σ : St), RF a0 arr σ → g_X12_holdsFor_33 f x1 x3 x4 x5 x6 x7 (absM a0 arr σ) = some (r, w') → w_X12_holdsFor_33 Q  f a0 x1 x3 x4 x5 x6 x7 σ := by
  intro f
  induction f with
  | zero => intro x1 x3 x4 x5 x6 x7 σ hR hp; cases hp
  | succ f ih =>
    intro x1 x3 x4 x5 x6 x7 σ hR hp
    unfold g_X12_holdsFor_33 at hp
    unfold w_X12_holdsFor_33
    replace hp := grd_some hp
    refine ⟨fun c => ?_, fun c => ?_⟩
    · replace hp := gif_t hp c
      exact hq _ _ hR hp
    · replace hp := gif_f hp c
      intro o61 ho61
      rw [hR.ref 17 (by decide)] at ho61
      subst ho61
      refine ⟨arr 17, rfl, ?_⟩
      obtain ⟨hv, hp⟩ := gix_some hp
      refine ⟨by rw [hR.len 17 (by first | decide | assumption)]; exact hv, ?_⟩
      intro o64 ho64
      rw [hR.ref 30 (by decide)] at ho64
      subst ho64
      refine ⟨arr 30, rfl, ?_⟩
      obtain ⟨hv, hp⟩ := gix_some hp
      refine ⟨by rw [hR.len 30 (by first | decide | assumption)]; exact hv, ?_⟩
      refine ⟨fun c => ?_, fun c => ?_⟩
      · replace hp := gif_t hp c
        refine ⟨FU, ?_⟩
        exact gq_X12_holdsFor_70 hq ih FU _ _ _ _ _ _ _ _ _ hR hp
      · replace hp := gif_f hp c
        refine ⟨FU, ?_⟩
        exact gq_X12_holdsFor_70 hq ih FU _ _ _ _ _ _ _ _ _ hR hp
set_option maxRecDepth 100000 in
set_option maxHeartbeats 1000000 in
theorem gq_X12_holdsFor {a0 : Nat} {arr : Nat → Nat} {σ : St} {x1 : Int32} {x2 : Int32} (hR : RF a0 arr σ) {r : Int32} {w' : MS} (hp : g_X12_holdsFor x1 x2 (absM a0 arr σ) = some (r, w')) {Q : Int32 → St → Prop} (hq : ∀ (s : St), RF a0 arr s → absM a0 arr s = w' → Q r s) : w_X12_holdsFor a0 x1 x2 σ Q := by
  replace hq : ∀ (s : St) (x : Int32), RF a0 arr s → gret x (absM a0 arr s) = some (r, w') → Q x s := fun s x hR e => by obtain ⟨rfl, hw⟩ := gret_some e; exact hq s hR hw
  unfold g_X12_holdsFor at hp
  unfold w_X12_holdsFor
  replace hp := grd_some hp
  intro x51 hx51
  obtain ⟨yx51, ex51, hp⟩ := gbo_some hp
  obtain rfl : yx51 = x51 := ex51.trans hx51.symm
  intro o52 ho52
  rw [hR.ref 36 (by decide)] at ho52
  subst ho52
  refine ⟨arr 36, rfl, ?_⟩
  obtain ⟨hv, hp⟩ := gix_some hp
  refine ⟨by rw [hR.len 36 (by first | decide | assumption)]; exact hv, ?_⟩
  intro x55 hx55
  obtain ⟨yx55, ex55, hp⟩ := gbo_some hp
  obtain rfl : yx55 = x55 := ex55.trans hx55.symm
  obtain ⟨x56, w57, he, hp⟩ := gb_some hp
  refine gq_X12_lacking hR he (fun s57 hR hw => ?_)
  subst hw
  clear he
  obtain ⟨x58, w59, he, hp⟩ := gb_some hp
  refine gq_X12_nextLot hR he (fun s59 hR hw => ?_)
  subst hw
  clear he
  refine ⟨FU, ?_⟩
  exact gq_X12_holdsFor_33 hq FU _ _ _ _ _ _ _ hR hp
set_option maxRecDepth 100000 in
set_option maxHeartbeats 1000000 in
theorem gq_X12_isBarredAt_52 {a0 : Nat} {arr : Nat → Nat} {r : Int32} {w' : MS} {Q : Int32 → St → Prop} (hq : ∀ (s : St) (x : Int32), RF a0 arr s → gret x (absM a0 arr s) = some (r, w') → Q x s) : ∀ (x1 : Int32) (x2 : Int32) (x4 : Int32) (σ : St), RF a0 arr σ → g_X12_isBarredAt_52 x1 x2 x4 (absM a0 arr σ) = some (r, w') → w_X12_isBarredAt_52 Q  a0 x1 x2 x4 σ := by
  intro x1 x2 x4 σ hR hp
  unfold g_X12_isBarredAt_52 at hp
  unfold w_X12_isBarredAt_52
  refine ⟨fun c => ?_, fun c => ?_⟩
  · replace hp := gif_t hp c
    exact hq _ _ hR hp
  · replace hp := gif_f hp c
    obtain ⟨x58, w59, he, hp⟩ := gb_some hp
    refine gq_X12_isBarredIn hR he (fun s59 hR hw => ?_)
    subst hw
    clear he
    refine ⟨fun c => ?_, fun c => ?_⟩
    · replace hp := gif_t hp c
      exact hq _ _ hR hp
    · replace hp := gif_f hp c
      exact hq _ _ hR hp
set_option maxRecDepth 100000 in
set_option maxHeartbeats 1000000 in
theorem gq_X12_isBarredAt_26 {a0 : Nat} {arr : Nat → Nat} {r : Int32} {w' : MS} {Q : Int32 → St → Prop} (hq : ∀ (s : St) (x : Int32), RF a0 arr s → gret x (absM a0 arr s) = some (r, w') → Q x s) : ∀ (x1 : Int32) (x2 : Int32) (x3 : Int32) (xs0 : Int32) (σ : St), RF a0 arr σ → g_X12_isBarredAt_26 x1 x2 x3 xs0 (absM a0 arr σ) = some (r, w') → w_X12_isBarredAt_26 Q  a0 x1 x2 x3 xs0 σ := by
  intro x1 x2 x3 xs0 σ hR hp
  unfold g_X12_isBarredAt_26 at hp
  unfold w_X12_isBarredAt_26
  obtain ⟨x53, w54, he, hp⟩ := gb_some hp
  refine gq_X12_isBarredIn hR he (fun s54 hR hw => ?_)
  subst hw
  clear he
  refine ⟨fun c => ?_, fun c => ?_⟩
  · replace hp := gif_f hp c
    exact hq _ _ hR hp
  · replace hp := gif_t hp c
    refine ⟨fun c => ?_, fun c => ?_⟩
    · replace hp := gif_t hp c
      exact gq_X12_isBarredAt_52 hq _ _ _ _ hR hp
    · replace hp := gif_f hp c
      obtain ⟨x61, w62, he, hp⟩ := gb_some hp
      refine gq_X12_isBarredIn hR he (fun s62 hR hw => ?_)
      subst hw
      clear he
      refine ⟨fun c => ?_, fun c => ?_⟩
      · replace hp := gif_f hp c
        exact hq _ _ hR hp
      · replace hp := gif_t hp c
        exact gq_X12_isBarredAt_52 hq _ _ _ _ hR hp
set_option maxRecDepth 100000 in
set_option maxHeartbeats 1000000 in
theorem gq_X12_isBarredAt_12 {a0 : Nat} {arr : Nat → Nat} {r : Int32} {w' : MS} {Q : Int32 → St → Prop} (hq : ∀ (s : St) (x : Int32), RF a0 arr s → gret x (absM a0 arr s) = some (r, w') → Q x s) : ∀ (x1 : Int32) (x2 : Int32) (xs0 : Int32) (σ : St), RF a0 arr σ → g_X12_isBarredAt_12 x1 x2 xs0 (absM a0 arr σ) = some (r, w') → w_X12_isBarredAt_12 Q  a0 x1 x2 xs0 σ := by
  intro x1 x2 xs0 σ hR hp
  unfold g_X12_isBarredAt_12 at hp
  unfold w_X12_isBarredAt_12
  refine ⟨fun c => ?_, fun c => ?_⟩
  · replace hp := gif_t hp c
    exact gq_X12_isBarredAt_26 hq _ _ _ _ _ hR hp
  · replace hp := gif_f hp c
    exact gq_X12_isBarredAt_26 hq _ _ _ _ _ hR hp
set_option maxRecDepth 100000 in
set_option maxHeartbeats 1000000 in
theorem gq_X12_isBarredAt {a0 : Nat} {arr : Nat → Nat} {σ : St} {x1 : Int32} {x2 : Int32} (hR : RF a0 arr σ) {r : Int32} {w' : MS} (hp : g_X12_isBarredAt x1 x2 (absM a0 arr σ) = some (r, w')) {Q : Int32 → St → Prop} (hq : ∀ (s : St), RF a0 arr s → absM a0 arr s = w' → Q r s) : w_X12_isBarredAt a0 x1 x2 σ Q := by
  replace hq : ∀ (s : St) (x : Int32), RF a0 arr s → gret x (absM a0 arr s) = some (r, w') → Q x s := fun s x hR e => by obtain ⟨rfl, hw⟩ := gret_some e; exact hq s hR hw
  unfold g_X12_isBarredAt at hp
  unfold w_X12_isBarredAt
  refine ⟨fun c => ?_, fun c => ?_⟩
  · replace hp := gif_t hp c
    exact gq_X12_isBarredAt_12 hq _ _ _ _ hR hp
  · replace hp := gif_f hp c
    exact gq_X12_isBarredAt_12 hq _ _ _ _ hR hp
set_option maxRecDepth 100000 in
set_option maxHeartbeats 1000000 in
theorem gq_X12_refills_225 {a0 : Nat} {arr : Nat → Nat} {r : Int32} {w' : MS} {Q : Int32 → St → Prop} (hq : ∀ (s : St) (x : Int32), RF a0 arr s → gret x (absM a0 arr s) = some (r, w') → Q x s) : ∀ (x7 : Int32) (σ : St), RF a0 arr σ → g_X12_refills_225 x7 (absM a0 arr σ) = some (r, w') → w_X12_refills_225 Q  x7 σ := by
  intro x7 σ hR hp
  unfold g_X12_refills_225 at hp
  unfold w_X12_refills_225
  refine ⟨fun c => ?_, fun c => ?_⟩
  · replace hp := gif_t hp c
    exact hq _ _ hR hp
  · replace hp := gif_f hp c
    exact hq _ _ hR hp
set_option maxRecDepth 100000 in
set_option maxHeartbeats 1000000 in
theorem gq_X12_refills_203 {a0 : Nat} {arr : Nat → Nat} {r : Int32} {w' : MS} {Q : Int32 → St → Prop} (hq : ∀ (s : St) (x : Int32), RF a0 arr s → gret x (absM a0 arr s) = some (r, w') → Q x s) : ∀ (x1 : Int32) (x4 : Int32) (x5 : Int32) (xs0 : Int32) (σ : St), RF a0 arr σ → g_X12_refills_203 x1 x4 x5 xs0 (absM a0 arr σ) = some (r, w') → w_X12_refills_203 Q  a0 x1 x4 x5 xs0 σ := by
  intro x1 x4 x5 xs0 σ hR hp
  unfold g_X12_refills_203 at hp
  unfold w_X12_refills_203
  refine ⟨fun c => ?_, fun c => ?_⟩
  · replace hp := gif_t hp c
    exact gq_X12_refills_225 hq _ _ hR hp
  · replace hp := gif_f hp c
    obtain ⟨x94, w95, he, hp⟩ := gb_some hp
    refine gq_X12_makes hR he (fun s95 hR hw => ?_)
    subst hw
    clear he
    exact gq_X12_refills_225 hq _ _ hR hp
set_option maxRecDepth 100000 in
set_option maxHeartbeats 1000000 in
theorem gq_X12_refills_145 {a0 : Nat} {arr : Nat → Nat} {r : Int32} {w' : MS} {Q : Int32 → St → Prop} (hq : ∀ (s : St) (x : Int32), RF a0 arr s → gret x (absM a0 arr s) = some (r, w') → Q x s) {K106 : Nat → Int32 → Int32 → Int32 → Int32 → St → Prop} {LK106 : Int32 → Int32 → Int32 → Int32 → GM (Int32)} (hK106 : ∀ (y1 : Int32) (y2 : Int32) (y3 : Int32) (y4 : Int32) (y5 : St), RF a0 arr y5 → LK106 y1 y2 y3 y4 (absM a0 arr y5) = some (r, w') → K106 a0 y1 y2 y3 y4 y5) {K115 : Nat → Int32 → Int32 → Int32 → Int32 → Int32 → St → Prop} {LK115 : Int32 → Int32 → Int32 → Int32 → Int32 → GM (Int32)} (hK115 : ∀ (y1 : Int32) (y2 : Int32) (y3 : Int32) (y4 : Int32) (y5 : Int32) (y6 : St), RF a0 arr y6 → LK115 y1 y2 y3 y4 y5 (absM a0 arr y6) = some (r, w') → K115 a0 y1 y2 y3 y4 y5 y6) : ∀ (x1 : Int32) (x2 : Int32) (x3 : Int32) (x4 : Int32) (x5 : Int32) (xs0 : Int32) (σ : St), RF a0 arr σ → g_X12_refills_145 LK106 LK115 x1 x2 x3 x4 x5 xs0 (absM a0 arr σ) = some (r, w') → w_X12_refills_145 Q K106 K115 a0 x1 x2 x3 x4 x5 xs0 σ := by
  intro x1 x2 x3 x4 x5 xs0 σ hR hp
  unfold g_X12_refills_145 at hp
  unfold w_X12_refills_145
  replace hp := grd_some hp
  refine ⟨fun c => ?_, fun c => ?_⟩
  · replace hp := gif_t hp c
    exact hK115 _ _ _ _ _ _ hR hp
  · replace hp := gif_f hp c
    intro o74 ho74
    rw [hR.ref 8 (by decide)] at ho74
    subst ho74
    refine ⟨arr 8, rfl, ?_⟩
    obtain ⟨hv, hp⟩ := gix_some hp
    refine ⟨by rw [hR.len 8 (by first | decide | assumption)]; exact hv, ?_⟩
    obtain ⟨x77, w78, he, hp⟩ := gb_some hp
    refine gq_X12_less hR he (fun s78 hR hw => ?_)
    subst hw
    clear he
    obtain ⟨x79, w80, he, hp⟩ := gb_some hp
    refine gq_X12_roomLeft hR he (fun s80 hR hw => ?_)
    subst hw
    clear he
    replace hp := grd_some hp
    intro o81 ho81
    rw [hR.ref 10 (by decide)] at ho81
    subst ho81
    refine ⟨arr 10, rfl, ?_⟩
    obtain ⟨hv, hp⟩ := gix_some hp
    refine ⟨by rw [hR.len 10 (by first | decide | assumption)]; exact hv, ?_⟩
    obtain ⟨hv, hp⟩ := gmd_some hp
    refine ⟨of_decide_eq_true hv, ?_⟩
    obtain ⟨x85, w86, he, hp⟩ := gb_some hp
    refine gq_X12_less hR he (fun s86 hR hw => ?_)
    subst hw
    clear he
    replace hp := grd_some hp
    refine ⟨fun c => ?_, fun c => ?_⟩
    · replace hp := gif_t hp c
      intro o88 ho88
      rw [hR.ref 13 (by decide)] at ho88
      subst ho88
      refine ⟨arr 13, rfl, ?_⟩
      obtain ⟨hv, hp⟩ := gix_some hp
      refine ⟨by rw [hR.len 13 (by first | decide | assumption)]; exact hv, ?_⟩
      obtain ⟨hv, hp⟩ := gmd_some hp
      refine ⟨of_decide_eq_true hv, ?_⟩
      exact gq_X12_refills_203 hq _ _ _ _ _ hR hp
    · replace hp := gif_f hp c
      exact gq_X12_refills_203 hq _ _ _ _ _ hR hp
set_option maxRecDepth 100000 in
set_option maxHeartbeats 1000000 in
theorem gq_X12_refills_115 {a0 : Nat} {arr : Nat → Nat} {r : Int32} {w' : MS} {Q : Int32 → St → Prop} (hq : ∀ (s : St) (x : Int32), RF a0 arr s → gret x (absM a0 arr s) = some (r, w') → Q x s) {K106 : Nat → Int32 → Int32 → Int32 → Int32 → St → Prop} {LK106 : Int32 → Int32 → Int32 → Int32 → GM (Int32)} (hK106 : ∀ (y1 : Int32) (y2 : Int32) (y3 : Int32) (y4 : Int32) (y5 : St), RF a0 arr y5 → LK106 y1 y2 y3 y4 (absM a0 arr y5) = some (r, w') → K106 a0 y1 y2 y3 y4 y5) : ∀ (f : Nat) (x1 : Int32) (x2 : Int32) (x3 : Int32) (x4 : Int32) (x5 : Int32) (σ : St), RF a0 arr σ → g_X12_refills_115 LK106 f x1 x2 x3 x4 x5 (absM a0 arr σ) = some (r, w') → w_X12_refills_115 Q K106 f a0 x1 x2 x3 x4 x5 σ := by
  intro f
  induction f with
  | zero => intro x1 x2 x3 x4 x5 σ hR hp; cases hp
  | succ f ih =>
    intro x1 x2 x3 x4 x5 σ hR hp
    unfold g_X12_refills_115 at hp
    unfold w_X12_refills_115
    replace hp := grd_some hp
    refine ⟨fun c => ?_, fun c => ?_⟩
    · replace hp := gif_t hp c
      obtain ⟨x67, w68, he, hp⟩ := gb_some hp
      refine gq_X12_nextLot hR he (fun s68 hR hw => ?_)
      subst hw
      clear he
      exact hK106 _ _ _ _ _ hR hp
    · replace hp := gif_f hp c
      intro o69 ho69
      rw [hR.ref 6 (by decide)] at ho69
      subst ho69
      refine ⟨arr 6, rfl, ?_⟩
      obtain ⟨hv, hp⟩ := gix_some hp
      refine ⟨by rw [hR.len 6 (by first | decide | assumption)]; exact hv, ?_⟩
      refine ⟨fun c => ?_, fun c => ?_⟩
      · replace hp := gif_f hp c
        exact gq_X12_refills_145 hq hK106 ih _ _ _ _ _ _ _ hR hp
      · replace hp := gif_t hp c
        obtain ⟨x96, w97, he, hp⟩ := gb_some hp
        refine gq_X12_freeAt hR he (fun s97 hR hw => ?_)
        subst hw
        clear he
        exact gq_X12_refills_145 hq hK106 ih _ _ _ _ _ _ _ hR hp
set_option maxRecDepth 100000 in
set_option maxHeartbeats 1000000 in
theorem gq_X12_refills_106 {a0 : Nat} {arr : Nat → Nat} {r : Int32} {w' : MS} {Q : Int32 → St → Prop} (hq : ∀ (s : St) (x : Int32), RF a0 arr s → gret x (absM a0 arr s) = some (r, w') → Q x s) : ∀ (f : Nat) (x1 : Int32) (x2 : Int32) (x3 : Int32) (x4 : Int32) (σ : St), RF a0 arr σ → g_X12_refills_106 f x1 x2 x3 x4 (absM a0 arr σ) = some (r, w') → w_X12_refills_106 Q  f a0 x1 x2 x3 x4 σ := by
  intro f
  induction f with
  | zero => intro x1 x2 x3 x4 σ hR hp; cases hp
  | succ f ih =>
    intro x1 x2 x3 x4 σ hR hp
    unfold g_X12_refills_106 at hp
    unfold w_X12_refills_106
    refine ⟨fun c => ?_, fun c => ?_⟩
    · replace hp := gif_t hp c
      exact hq _ _ hR hp
    · replace hp := gif_f hp c
      refine ⟨FU, ?_⟩
      exact gq_X12_refills_115 hq ih FU _ _ _ _ _ _ hR hp
set_option maxRecDepth 100000 in
set_option maxHeartbeats 1000000 in
theorem gq_X12_refills_17 {a0 : Nat} {arr : Nat → Nat} {r : Int32} {w' : MS} {Q : Int32 → St → Prop} (hq : ∀ (s : St) (x : Int32), RF a0 arr s → gret x (absM a0 arr s) = some (r, w') → Q x s) : ∀ (f : Nat) (x1 : Int32) (x2 : Int32) (x3 : Int32) (x4 : Int32) (σ : St), RF a0 arr σ → g_X12_refills_17 f x1 x2 x3 x4 (absM a0 arr σ) = some (r, w') → w_X12_refills_17 Q  f a0 x1 x2 x3 x4 σ := by
  intro f
  induction f with
  | zero => intro x1 x2 x3 x4 σ hR hp; cases hp
  | succ f ih =>
    intro x1 x2 x3 x4 σ hR hp
    unfold g_X12_refills_17 at hp
    unfold w_X12_refills_17
    replace hp := grd_some hp
    refine ⟨fun c => ?_, fun c => ?_⟩
    · replace hp := gif_t hp c
      intro o58 ho58
      rw [hR.ref 7 (by decide)] at ho58
      subst ho58
      refine ⟨arr 7, rfl, ?_⟩
      obtain ⟨hv, hp⟩ := gix_some hp
      refine ⟨by rw [hR.len 7 (by first | decide | assumption)]; exact hv, ?_⟩
      refine ⟨fun c => ?_, fun c => ?_⟩
      · replace hp := gif_t hp c
        exact hq _ _ hR hp
      · replace hp := gif_f hp c
        refine ⟨fun c => ?_, fun c => ?_⟩
        · replace hp := gif_f hp c
          obtain ⟨x63, w64, he, hp⟩ := gb_some hp
          refine gq_X12_nextLot hR he (fun s64 hR hw => ?_)
          subst hw
          clear he
          refine ⟨FU, ?_⟩
          exact gq_X12_refills_106 hq FU _ _ _ _ _ hR hp
        · replace hp := gif_t hp c
          exact hq _ _ hR hp
    · replace hp := gif_f hp c
      obtain ⟨x100, w101, he, hp⟩ := gb_some hp
      refine gq_X12_isOn hR he (fun s101 hR hw => ?_)
      subst hw
      clear he
      replace hp := grd_some hp
      refine ⟨fun c => ?_, fun c => ?_⟩
      · replace hp := gif_t hp c
        intro x103 hx103
        obtain ⟨yx103, ex103, hp⟩ := gbo_some hp
        obtain rfl : yx103 = x103 := ex103.trans hx103.symm
        exact ih _ _ _ _ _ hR hp
      · replace hp := gif_f hp c
        intro o104 ho104
        rw [hR.ref 46 (by decide)] at ho104
        subst ho104
        refine ⟨arr 46, rfl, ?_⟩
        obtain ⟨hv, hp⟩ := gix_some hp
        refine ⟨by rw [hR.len 46 (by first | decide | assumption)]; exact hv, ?_⟩
        refine ⟨fun c => ?_, fun c => ?_⟩
        · replace hp := gif_f hp c
          intro x108 hx108
          obtain ⟨yx108, ex108, hp⟩ := gbo_some hp
          obtain rfl : yx108 = x108 := ex108.trans hx108.symm
          exact ih _ _ _ _ _ hR hp
        · replace hp := gif_t hp c
          intro o109 ho109
          rw [hR.ref 49 (by decide)] at ho109
          subst ho109
          refine ⟨arr 49, rfl, ?_⟩
          obtain ⟨hv, hp⟩ := gix_some hp
          refine ⟨by rw [hR.len 49 (by first | decide | assumption)]; exact hv, ?_⟩
          refine ⟨fun c => ?_, fun c => ?_⟩
          · replace hp := gif_f hp c
            intro x113 hx113
            obtain ⟨yx113, ex113, hp⟩ := gbo_some hp
            obtain rfl : yx113 = x113 := ex113.trans hx113.symm
            exact ih _ _ _ _ _ hR hp
          · replace hp := gif_t hp c
            intro o114 ho114
            rw [hR.ref 51 (by decide)] at ho114
            subst ho114
            refine ⟨arr 51, rfl, ?_⟩
            obtain ⟨hv, hp⟩ := gix_some hp
            refine ⟨by rw [hR.len 51 (by first | decide | assumption)]; exact hv, ?_⟩
            intro x117 hx117
            obtain ⟨yx117, ex117, hp⟩ := gbo_some hp
            obtain rfl : yx117 = x117 := ex117.trans hx117.symm
            exact ih _ _ _ _ _ hR hp
set_option maxRecDepth 100000 in
set_option maxHeartbeats 1000000 in
theorem gq_X12_refills {a0 : Nat} {arr : Nat → Nat} {σ : St} {x1 : Int32} (hR : RF a0 arr σ) {r : Int32} {w' : MS} (hp : g_X12_refills x1 (absM a0 arr σ) = some (r, w')) {Q : Int32 → St → Prop} (hq : ∀ (s : St), RF a0 arr s → absM a0 arr s = w' → Q r s) : w_X12_refills a0 x1 σ Q := by
  replace hq : ∀ (s : St) (x : Int32), RF a0 arr s → gret x (absM a0 arr s) = some (r, w') → Q x s := fun s x hR e => by obtain ⟨rfl, hw⟩ := gret_some e; exact hq s hR hw
  unfold g_X12_refills at hp
  unfold w_X12_refills
  replace hp := grd_some hp
  intro o51 ho51
  rw [hR.ref 6 (by decide)] at ho51
  subst ho51
  refine ⟨arr 6, rfl, ?_⟩
  obtain ⟨hv, hp⟩ := gix_some hp
  refine ⟨by rw [hR.len 6 (by first | decide | assumption)]; exact hv, ?_⟩
  intro x54 hx54
  obtain ⟨yx54, ex54, hp⟩ := gbo_some hp
  obtain rfl : yx54 = x54 := ex54.trans hx54.symm
  obtain ⟨x55, w56, he, hp⟩ := gb_some hp
  refine gq_X12_itemIn hR he (fun s56 hR hw => ?_)
  subst hw
  clear he
  refine ⟨FU, ?_⟩
  exact gq_X12_refills_17 hq FU _ _ _ _ _ hR hp
set_option maxRecDepth 100000 in
set_option maxHeartbeats 1000000 in
theorem gq_X12_room_13 {a0 : Nat} {arr : Nat → Nat} {r : Int32} {w' : MS} {Q : Int32 → St → Prop} (hq : ∀ (s : St) (x : Int32), RF a0 arr s → gret x (absM a0 arr s) = some (r, w') → Q x s) : ∀ (x1 : Int32) (xs1 : Int32) (σ : St), RF a0 arr σ → g_X12_room_13 x1 xs1 (absM a0 arr σ) = some (r, w') → w_X12_room_13 Q  a0 x1 a0 xs1 σ := by
  intro x1 xs1 σ hR hp
  unfold g_X12_room_13 at hp
  unfold w_X12_room_13
  obtain ⟨x54, w55, he, hp⟩ := gb_some hp
  refine gq_X12_holds hR he (fun s55 hR hw => ?_)
  subst hw
  clear he
  refine ⟨fun c => ?_, fun c => ?_⟩
  · replace hp := gif_t hp c
    exact hq _ _ hR hp
  · replace hp := gif_f hp c
    obtain ⟨x57, w58, he, hp⟩ := gb_some hp
    refine gq_X12_roomLeft hR he (fun s58 hR hw => ?_)
    subst hw
    clear he
    exact hq _ _ hR hp
set_option maxRecDepth 100000 in
set_option maxHeartbeats 1000000 in
theorem gq_X12_room {a0 : Nat} {arr : Nat → Nat} {σ : St} {x1 : Int32} (hR : RF a0 arr σ) {r : Int32} {w' : MS} (hp : g_X12_room x1 (absM a0 arr σ) = some (r, w')) {Q : Int32 → St → Prop} (hq : ∀ (s : St), RF a0 arr s → absM a0 arr s = w' → Q r s) : w_X12_room a0 x1 σ Q := by
  replace hq : ∀ (s : St) (x : Int32), RF a0 arr s → gret x (absM a0 arr s) = some (r, w') → Q x s := fun s x hR e => by obtain ⟨rfl, hw⟩ := gret_some e; exact hq s hR hw
  unfold g_X12_room at hp
  unfold w_X12_room
  obtain ⟨x51, w52, he, hp⟩ := gb_some hp
  refine gq_X12_isSlot hR he (fun s52 hR hw => ?_)
  subst hw
  clear he
  refine ⟨fun c => ?_, fun c => ?_⟩
  · replace hp := gif_t hp c
    exact gq_X12_room_13 hq _ _ _ hR hp
  · replace hp := gif_f hp c
    exact gq_X12_room_13 hq _ _ _ hR hp
set_option maxRecDepth 100000 in
set_option maxHeartbeats 1000000 in
theorem gq_X12_slot_63 {a0 : Nat} {arr : Nat → Nat} {r : Unit} {w' : MS} {Q : St → Prop} (hq : ∀ (s : St), RF a0 arr s → gret () (absM a0 arr s) = some (r, w') → Q s) : ∀ (x1 : Int32) (x2 : Int32) (x3 : Int32) (xs1 : Int32) (σ : St), RF a0 arr σ → g_X12_slot_63 x1 x2 x3 xs1 (absM a0 arr σ) = some (r, w') → w_X12_slot_63 Q  a0 x1 x2 x3 a0 xs1 σ := by
  intro x1 x2 x3 xs1 σ hR hp
  unfold g_X12_slot_63 at hp
  unfold w_X12_slot_63
  obtain ⟨x57, w58, he, hp⟩ := gb_some hp
  refine gq_X12_holds hR he (fun s58 hR hw => ?_)
  subst hw
  clear he
  refine ⟨fun c => ?_, fun c => ?_⟩
  · replace hp := gif_t hp c
    exact hq _ hR hp
  · replace hp := gif_f hp c
    intro o60 ho60
    rw [hR.ref 4 (by decide)] at ho60
    subst ho60
    refine ⟨arr 4, rfl, ?_⟩
    obtain ⟨hv, hp⟩ := gix_some hp
    refine ⟨by rw [hR.len 4 (by first | decide | assumption)]; exact hv, ?_⟩
    intro s63 hs63
    have h2 := abs_setA hR 4 (by first | decide | assumption) hs63
    replace hR := hR.setA hs63
    replace hp := gst_up hp h2
    clear h2 hs63
    intro o64 ho64
    rw [hR.ref 5 (by decide)] at ho64
    subst ho64
    refine ⟨arr 5, rfl, ?_⟩
    obtain ⟨hv, hp⟩ := gix_some hp
    refine ⟨by rw [hR.len 5 (by first | decide | assumption)]; exact hv, ?_⟩
    intro s67 hs67
    have h2 := abs_setA hR 5 (by first | decide | assumption) hs67
    replace hR := hR.setA hs67
    replace hp := gst_up hp h2
    clear h2 hs67
    exact hq _ hR hp
set_option maxRecDepth 100000 in
set_option maxHeartbeats 1000000 in
theorem gq_X12_slot {a0 : Nat} {arr : Nat → Nat} {σ : St} {x1 : Int32} {x2 : Int32} {x3 : Int32} (hR : RF a0 arr σ) {r : Unit} {w' : MS} (hp : g_X12_slot x1 x2 x3 (absM a0 arr σ) = some (r, w')) {Q : St → Prop} (hq : ∀ (s : St), RF a0 arr s → absM a0 arr s = w' → Q s) : w_X12_slot a0 x1 x2 x3 σ Q := by
  replace hq : ∀ (s : St), RF a0 arr s → gret () (absM a0 arr s) = some (r, w') → Q s := fun s hR e => by obtain ⟨rfl, hw⟩ := gret_some e; exact hq s hR hw
  unfold g_X12_slot at hp
  unfold w_X12_slot
  obtain ⟨x51, w52, he, hp⟩ := gb_some hp
  refine gq_X12_isSlot hR he (fun s52 hR hw => ?_)
  subst hw
  clear he
  refine ⟨fun c => ?_, fun c => ?_⟩
  · replace hp := gif_f hp c
    obtain ⟨x54, w55, he, hp⟩ := gb_some hp
    refine gq_X12_isIn hR he (fun s55 hR hw => ?_)
    subst hw
    clear he
    refine ⟨fun c => ?_, fun c => ?_⟩
    · replace hp := gif_t hp c
      exact gq_X12_slot_63 hq _ _ _ _ _ hR hp
    · replace hp := gif_f hp c
      obtain ⟨x68, w69, he, hp⟩ := gb_some hp
      refine gq_X12_isIn hR he (fun s69 hR hw => ?_)
      subst hw
      clear he
      refine ⟨fun c => ?_, fun c => ?_⟩
      · replace hp := gif_f hp c
        obtain ⟨x71, w72, he, hp⟩ := gb_some hp
        refine gq_X12_isEmpty hR he (fun s72 hR hw => ?_)
        subst hw
        clear he
        replace hp := grd_some hp
        refine ⟨fun c => ?_, fun c => ?_⟩
        · replace hp := gif_t hp c
          exact gq_X12_slot_63 hq _ _ _ _ _ hR hp
        · replace hp := gif_f hp c
          intro o74 ho74
          rw [hR.ref 6 (by decide)] at ho74
          subst ho74
          refine ⟨arr 6, rfl, ?_⟩
          obtain ⟨hv, hp⟩ := gix_some hp
          refine ⟨by rw [hR.len 6 (by first | decide | assumption)]; exact hv, ?_⟩
          refine ⟨fun c => ?_, fun c => ?_⟩
          · replace hp := gif_t hp c
            exact gq_X12_slot_63 hq _ _ _ _ _ hR hp
          · replace hp := gif_f hp c
            exact gq_X12_slot_63 hq _ _ _ _ _ hR hp
      · replace hp := gif_t hp c
        exact gq_X12_slot_63 hq _ _ _ _ _ hR hp
  · replace hp := gif_t hp c
    exact gq_X12_slot_63 hq _ _ _ _ _ hR hp
set_option maxRecDepth 100000 in
set_option maxHeartbeats 1000000 in
theorem gq_X12_stock {a0 : Nat} {arr : Nat → Nat} {σ : St} {x1 : Int32} {x2 : Int32} (hR : RF a0 arr σ) {r : Int32} {w' : MS} (hp : g_X12_stock x1 x2 (absM a0 arr σ) = some (r, w')) {Q : Int32 → St → Prop} (hq : ∀ (s : St), RF a0 arr s → absM a0 arr s = w' → Q r s) : w_X12_stock a0 x1 x2 σ Q := by
  replace hq : ∀ (s : St) (x : Int32), RF a0 arr s → gret x (absM a0 arr s) = some (r, w') → Q x s := fun s x hR e => by obtain ⟨rfl, hw⟩ := gret_some e; exact hq s hR hw
  unfold g_X12_stock at hp
  unfold w_X12_stock
  obtain ⟨x51, w52, he, hp⟩ := gb_some hp
  refine gq_X12_isAsked hR he (fun s52 hR hw => ?_)
  subst hw
  clear he
  replace hp := grd_some hp
  refine ⟨fun c => ?_, fun c => ?_⟩
  · replace hp := gif_t hp c
    exact hq _ _ hR hp
  · replace hp := gif_f hp c
    intro o54 ho54
    rw [hR.ref 19 (by decide)] at ho54
    subst ho54
    refine ⟨arr 19, rfl, ?_⟩
    obtain ⟨hv, hp⟩ := gix_some hp
    refine ⟨by rw [hR.len 19 (by first | decide | assumption)]; exact hv, ?_⟩
    exact hq _ _ hR hp
set_option maxRecDepth 100000 in
set_option maxHeartbeats 1000000 in
theorem gq_X12_stockAnew {a0 : Nat} {arr : Nat → Nat} {σ : St} {x1 : Int32} {x2 : Int32} (hR : RF a0 arr σ) {r : Int32} {w' : MS} (hp : g_X12_stockAnew x1 x2 (absM a0 arr σ) = some (r, w')) {Q : Int32 → St → Prop} (hq : ∀ (s : St), RF a0 arr s → absM a0 arr s = w' → Q r s) : w_X12_stockAnew a0 x1 x2 σ Q := by
  replace hq : ∀ (s : St) (x : Int32), RF a0 arr s → gret x (absM a0 arr s) = some (r, w') → Q x s := fun s x hR e => by obtain ⟨rfl, hw⟩ := gret_some e; exact hq s hR hw
  unfold g_X12_stockAnew at hp
  unfold w_X12_stockAnew
  obtain ⟨x51, w52, he, hp⟩ := gb_some hp
  refine gq_X12_isAsked hR he (fun s52 hR hw => ?_)
  subst hw
  clear he
  replace hp := grd_some hp
  refine ⟨fun c => ?_, fun c => ?_⟩
  · replace hp := gif_t hp c
    exact hq _ _ hR hp
  · replace hp := gif_f hp c
    intro o54 ho54
    rw [hR.ref 19 (by decide)] at ho54
    subst ho54
    refine ⟨arr 19, rfl, ?_⟩
    obtain ⟨hv, hp⟩ := gix_some hp
    refine ⟨by rw [hR.len 19 (by first | decide | assumption)]; exact hv, ?_⟩
    exact hq _ _ hR hp
set_option maxRecDepth 100000 in
set_option maxHeartbeats 1000000 in
theorem gq_X12_allocates_13 {a0 : Nat} {arr : Nat → Nat} {r : Int32} {w' : MS} {Q : Int32 → St → Prop} (hq : ∀ (s : St) (x : Int32), RF a0 arr s → gret x (absM a0 arr s) = some (r, w') → Q x s) : ∀ (f : Nat) (x1 : Int32) (x2 : Int32) (x3 : Int32) (x4 : Int32) (x5 : Int32) (σ : St), RF a0 arr σ → g_X12_allocates_13 f x1 x2 x3 x4 x5 (absM a0 arr σ) = some (r, w') → w_X12_allocates_13 Q  f a0 x1 x2 x3 x4 x5 σ := by
  intro f
  induction f with
  | zero => intro x1 x2 x3 x4 x5 σ hR hp; cases hp
  | succ f ih =>
    intro x1 x2 x3 x4 x5 σ hR hp
    unfold g_X12_allocates_13 at hp
    unfold w_X12_allocates_13
    replace hp := grd_some hp
    intro o52 ho52
    rw [hR.ref 31 (by decide)] at ho52
    subst ho52
    refine ⟨arr 31, rfl, ?_⟩
    obtain ⟨hv, hp⟩ := gix_some hp
    refine ⟨by rw [hR.len 31 (by first | decide | assumption)]; exact hv, ?_⟩
    refine ⟨fun c => ?_, fun c => ?_⟩
    · replace hp := gif_t hp c
      intro o56 ho56
      rw [hR.ref 29 (by decide)] at ho56
      subst ho56
      refine ⟨arr 29, rfl, ?_⟩
      obtain ⟨hv, hp⟩ := gix_some hp
      refine ⟨by rw [hR.len 29 (by first | decide | assumption)]; exact hv, ?_⟩
      refine ⟨fun c => ?_, fun c => ?_⟩
      · replace hp := gif_t hp c
        exact hq _ _ hR hp
      · replace hp := gif_f hp c
        refine ⟨fun c => ?_, fun c => ?_⟩
        · replace hp := gif_t hp c
          exact hq _ _ hR hp
        · replace hp := gif_f hp c
          intro s61 hs61
          have h2 := abs_setI (arr := arr) 39 (by decide) hs61
          replace hR := hR.setI hs61
          replace hp := gst_up hp h2
          clear h2 hs61
          exact hq _ _ hR hp
    · replace hp := gif_f hp c
      obtain ⟨x62, w63, he, hp⟩ := gb_some hp
      refine gq_X12_holdsFor hR he (fun s63 hR hw => ?_)
      subst hw
      clear he
      intro x64 hx64
      obtain ⟨yx64, ex64, hp⟩ := gbo_some hp
      obtain rfl : yx64 = x64 := ex64.trans hx64.symm
      refine ⟨fun c => ?_, fun c => ?_⟩
      · replace hp := gif_f hp c
        exact ih _ _ _ _ _ _ hR hp
      · replace hp := gif_t hp c
        obtain ⟨x66, w67, he, hp⟩ := gb_some hp
        refine gq_X12_lacking hR he (fun s67 hR hw => ?_)
        subst hw
        clear he
        refine ⟨fun c => ?_, fun c => ?_⟩
        · replace hp := gif_t hp c
          exact ih _ _ _ _ _ _ hR hp
        · replace hp := gif_f hp c
          exact ih _ _ _ _ _ _ hR hp
set_option maxRecDepth 100000 in
set_option maxHeartbeats 1000000 in
theorem gq_X12_allocates {a0 : Nat} {arr : Nat → Nat} {σ : St} {x1 : Int32} (hR : RF a0 arr σ) {r : Int32} {w' : MS} (hp : g_X12_allocates x1 (absM a0 arr σ) = some (r, w')) {Q : Int32 → St → Prop} (hq : ∀ (s : St), RF a0 arr s → absM a0 arr s = w' → Q r s) : w_X12_allocates a0 x1 σ Q := by
  replace hq : ∀ (s : St) (x : Int32), RF a0 arr s → gret x (absM a0 arr s) = some (r, w') → Q x s := fun s x hR e => by obtain ⟨rfl, hw⟩ := gret_some e; exact hq s hR hw
  unfold g_X12_allocates at hp
  unfold w_X12_allocates
  replace hp := grd_some hp
  intro x51 hx51
  obtain ⟨yx51, ex51, hp⟩ := gbo_some hp
  obtain rfl : yx51 = x51 := ex51.trans hx51.symm
  refine ⟨FU, ?_⟩
  exact gq_X12_allocates_13 hq FU _ _ _ _ _ _ hR hp
set_option maxRecDepth 100000 in
set_option maxHeartbeats 1000000 in
theorem gq_X12_goesTo_65 {a0 : Nat} {arr : Nat → Nat} {r : Unit} {w' : MS} {Q : St → Prop} (hq : ∀ (s : St), RF a0 arr s → gret () (absM a0 arr s) = some (r, w') → Q s) : ∀ (os0 : Nat) (xs1 : Int32) (xs2 : Int32) (xs3 : Int32) (σ : St), RF a0 arr σ → g_X12_goesTo_65 os0 xs1 xs2 xs3 (absM a0 arr σ) = some (r, w') → w_X12_goesTo_65 Q  (some (arr os0)) xs1 xs2 xs3 σ := by
  intro os0 xs1 xs2 xs3 σ hR hp
  unfold g_X12_goesTo_65 at hp
  unfold w_X12_goesTo_65
  obtain ⟨hAos0, hp⟩ := gmd_some hp
  refine ⟨arr os0, rfl, ?_⟩
  obtain ⟨hv, hp⟩ := gix_some hp
  refine ⟨by rw [hR.len os0 (by first | decide | assumption)]; exact hv, ?_⟩
  intro s85 hs85
  have h2 := abs_setA hR os0 (by first | decide | assumption) hs85
  replace hR := hR.setA hs85
  replace hp := gst_up hp h2
  clear h2 hs85
  exact hq _ hR hp
set_option maxRecDepth 100000 in
set_option maxHeartbeats 1000000 in
theorem gq_X12_goesTo {a0 : Nat} {arr : Nat → Nat} {σ : St} {x1 : Int32} {x2 : Int32} {x3 : Int32} (hR : RF a0 arr σ) {r : Unit} {w' : MS} (hp : g_X12_goesTo x1 x2 x3 (absM a0 arr σ) = some (r, w')) {Q : St → Prop} (hq : ∀ (s : St), RF a0 arr s → absM a0 arr s = w' → Q s) : w_X12_goesTo a0 x1 x2 x3 σ Q := by
  replace hq : ∀ (s : St), RF a0 arr s → gret () (absM a0 arr s) = some (r, w') → Q s := fun s hR e => by obtain ⟨rfl, hw⟩ := gret_some e; exact hq s hR hw
  unfold g_X12_goesTo at hp
  unfold w_X12_goesTo
  replace hp := grd_some hp
  intro x51 hx51
  obtain ⟨yx51, ex51, hp⟩ := gbo_some hp
  obtain rfl : yx51 = x51 := ex51.trans hx51.symm
  intro x52 hx52
  obtain ⟨yx52, ex52, hp⟩ := gbo_some hp
  obtain rfl : yx52 = x52 := ex52.trans hx52.symm
  intro o53 ho53
  rw [hR.ref 55 (by decide)] at ho53
  subst ho53
  refine ⟨arr 55, rfl, ?_⟩
  obtain ⟨hv, hp⟩ := gix_some hp
  refine ⟨by rw [hR.len 55 (by first | decide | assumption)]; exact hv, ?_⟩
  refine ⟨fun c => ?_, fun c => ?_⟩
  · replace hp := gif_f hp c
    obtain ⟨x57, w58, he, hp⟩ := gb_some hp
    refine gq_X12_isHeldByOther hR he (fun s58 hR hw => ?_)
    subst hw
    clear he
    refine ⟨fun c => ?_, fun c => ?_⟩
    · replace hp := gif_t hp c
      intro o60 ho60
      rw [hR.ref 55 (by decide)] at ho60
      subst ho60
      refine ⟨arr 55, rfl, ?_⟩
      obtain ⟨hv, hp⟩ := gix_some hp
      refine ⟨by rw [hR.len 55 (by first | decide | assumption)]; exact hv, ?_⟩
      intro s63 hs63
      have h2 := abs_setA hR 55 (by first | decide | assumption) hs63
      replace hR := hR.setA hs63
      replace hp := gst_up hp h2
      clear h2 hs63
      intro o64 ho64
      rw [hR.ref 56 (by decide)] at ho64
      subst ho64
      refine ⟨arr 56, rfl, ?_⟩
      obtain ⟨hv, hp⟩ := gix_some hp
      refine ⟨by rw [hR.len 56 (by first | decide | assumption)]; exact hv, ?_⟩
      intro s67 hs67
      have h2 := abs_setA hR 56 (by first | decide | assumption) hs67
      replace hR := hR.setA hs67
      replace hp := gst_up hp h2
      clear h2 hs67
      exact hq _ hR hp
    · replace hp := gif_f hp c
      intro o68 ho68
      rw [hR.ref 57 (by decide)] at ho68
      subst ho68
      refine ⟨arr 57, rfl, ?_⟩
      obtain ⟨hv, hp⟩ := gix_some hp
      refine ⟨by rw [hR.len 57 (by first | decide | assumption)]; exact hv, ?_⟩
      intro s71 hs71
      have h2 := abs_setA hR 57 (by first | decide | assumption) hs71
      replace hR := hR.setA hs71
      replace hp := gst_up hp h2
      clear h2 hs71
      exact hq _ hR hp
  · replace hp := gif_t hp c
    intro o72 ho72
    rw [hR.ref 56 (by decide)] at ho72
    subst ho72
    refine ⟨arr 56, rfl, ?_⟩
    obtain ⟨hv, hp⟩ := gix_some hp
    refine ⟨by rw [hR.len 56 (by first | decide | assumption)]; exact hv, ?_⟩
    refine ⟨fun c => ?_, fun c => ?_⟩
    · replace hp := gif_f hp c
      intro o76 ho76
      rw [hR.ref 56 (by decide)] at ho76
      subst ho76
      refine ⟨arr 56, rfl, ?_⟩
      obtain ⟨hv, hp⟩ := gix_some hp
      refine ⟨by rw [hR.len 56 (by first | decide | assumption)]; exact hv, ?_⟩
      intro o79 ho79
      rw [hR.ref 56 (by decide)] at ho79
      subst ho79
      refine ⟨arr 56, rfl, ?_⟩
      obtain ⟨hv, hp⟩ := gix_some hp
      refine ⟨by rw [hR.len 56 (by first | decide | assumption)]; exact hv, ?_⟩
      refine ⟨fun c => ?_, fun c => ?_⟩
      · replace hp := gif_t hp c
        exact gq_X12_goesTo_65 hq _ _ _ _ _ hR hp
      · replace hp := gif_f hp c
        exact gq_X12_goesTo_65 hq _ _ _ _ _ hR hp
    · replace hp := gif_t hp c
      obtain ⟨u87, w87, he, hp⟩ := gb_some hp
      refine gq_X12_does hR he (fun s87 hR hw => ?_)
      subst hw
      clear he
      exact hq _ hR hp
set_option maxRecDepth 100000 in
set_option maxHeartbeats 1000000 in
theorem gq_X12_refill_9 {a0 : Nat} {arr : Nat → Nat} {r : Int32} {w' : MS} {Q : Int32 → St → Prop} (hq : ∀ (s : St) (x : Int32), RF a0 arr s → gret x (absM a0 arr s) = some (r, w') → Q x s) : ∀ (f : Nat) (x1 : Int32) (x2 : Int32) (σ : St), RF a0 arr σ → g_X12_refill_9 f x1 x2 (absM a0 arr σ) = some (r, w') → w_X12_refill_9 Q  f a0 x1 x2 σ := by
  intro f
  induction f with
  | zero => intro x1 x2 σ hR hp; cases hp
  | succ f ih =>
    intro x1 x2 σ hR hp
    unfold g_X12_refill_9 at hp
    unfold w_X12_refill_9
    replace hp := grd_some hp
    refine ⟨fun c => ?_, fun c => ?_⟩
    · replace hp := gif_t hp c
      exact hq _ _ hR hp
    · replace hp := gif_f hp c
      intro o53 ho53
      rw [hR.ref 6 (by decide)] at ho53
      subst ho53
      refine ⟨arr 6, rfl, ?_⟩
      obtain ⟨hv, hp⟩ := gix_some hp
      refine ⟨by rw [hR.len 6 (by first | decide | assumption)]; exact hv, ?_⟩
      refine ⟨fun c => ?_, fun c => ?_⟩
      · replace hp := gif_t hp c
        intro x57 hx57
        obtain ⟨yx57, ex57, hp⟩ := gbo_some hp
        obtain rfl : yx57 = x57 := ex57.trans hx57.symm
        exact ih _ _ _ hR hp
      · replace hp := gif_f hp c
        obtain ⟨x58, w59, he, hp⟩ := gb_some hp
        refine gq_X12_refills hR he (fun s59 hR hw => ?_)
        subst hw
        clear he
        refine ⟨fun c => ?_, fun c => ?_⟩
        · replace hp := gif_t hp c
          intro x61 hx61
          obtain ⟨yx61, ex61, hp⟩ := gbo_some hp
          obtain rfl : yx61 = x61 := ex61.trans hx61.symm
          exact ih _ _ _ hR hp
        · replace hp := gif_f hp c
          intro x62 hx62
          obtain ⟨yx62, ex62, hp⟩ := gbo_some hp
          obtain rfl : yx62 = x62 := ex62.trans hx62.symm
          exact ih _ _ _ hR hp
set_option maxRecDepth 100000 in
set_option maxHeartbeats 1000000 in
theorem gq_X12_refill {a0 : Nat} {arr : Nat → Nat} {σ : St}  (hR : RF a0 arr σ) {r : Int32} {w' : MS} (hp : g_X12_refill (absM a0 arr σ) = some (r, w')) {Q : Int32 → St → Prop} (hq : ∀ (s : St), RF a0 arr s → absM a0 arr s = w' → Q r s) : w_X12_refill a0 σ Q := by
  replace hq : ∀ (s : St) (x : Int32), RF a0 arr s → gret x (absM a0 arr s) = some (r, w') → Q x s := fun s x hR e => by obtain ⟨rfl, hw⟩ := gret_some e; exact hq s hR hw
  unfold g_X12_refill at hp
  unfold w_X12_refill
  intro s51 hs51
  have h2 := abs_setI (arr := arr) 0 (by decide) hs51
  replace hR := hR.setI hs51
  replace hp := gst_up hp h2
  clear h2 hs51
  refine ⟨FU, ?_⟩
  exact gq_X12_refill_9 hq FU _ _ _ hR hp
set_option maxRecDepth 100000 in
set_option maxHeartbeats 1000000 in
theorem gq_X12_slotFor_162 {a0 : Nat} {arr : Nat → Nat} {r : Int32} {w' : MS} {Q : Int32 → St → Prop} (hq : ∀ (s : St) (x : Int32), RF a0 arr s → gret x (absM a0 arr s) = some (r, w') → Q x s) {K16 : Nat → Int32 → Int32 → Int32 → Int32 → Int32 → Int32 → St → Prop} {LK16 : Int32 → Int32 → Int32 → Int32 → Int32 → Int32 → GM (Int32)} (hK16 : ∀ (y1 : Int32) (y2 : Int32) (y3 : Int32) (y4 : Int32) (y5 : Int32) (y6 : Int32) (y7 : St), RF a0 arr y7 → LK16 y1 y2 y3 y4 y5 y6 (absM a0 arr y7) = some (r, w') → K16 a0 y1 y2 y3 y4 y5 y6 y7) : ∀ (x1 : Int32) (x2 : Int32) (x4 : Int32) (x5 : Int32) (x6 : Int32) (x10 : Int32) (xs0 : Int32) (σ : St), RF a0 arr σ → g_X12_slotFor_162 LK16 x1 x2 x4 x5 x6 x10 xs0 (absM a0 arr σ) = some (r, w') → w_X12_slotFor_162 Q K16 a0 x1 x2 x4 x5 x6 x10 xs0 σ := by
  intro x1 x2 x4 x5 x6 x10 xs0 σ hR hp
  unfold g_X12_slotFor_162 at hp
  unfold w_X12_slotFor_162
  refine ⟨fun c => ?_, fun c => ?_⟩
  · replace hp := gif_f hp c
    exact hK16 _ _ _ _ _ _ _ hR hp
  · replace hp := gif_t hp c
    exact hK16 _ _ _ _ _ _ _ hR hp
set_option maxRecDepth 100000 in
set_option maxHeartbeats 1000000 in
theorem gq_X12_slotFor_161 {a0 : Nat} {arr : Nat → Nat} {r : Int32} {w' : MS} {Q : Int32 → St → Prop} (hq : ∀ (s : St) (x : Int32), RF a0 arr s → gret x (absM a0 arr s) = some (r, w') → Q x s) {K16 : Nat → Int32 → Int32 → Int32 → Int32 → Int32 → Int32 → St → Prop} {LK16 : Int32 → Int32 → Int32 → Int32 → Int32 → Int32 → GM (Int32)} (hK16 : ∀ (y1 : Int32) (y2 : Int32) (y3 : Int32) (y4 : Int32) (y5 : Int32) (y6 : Int32) (y7 : St), RF a0 arr y7 → LK16 y1 y2 y3 y4 y5 y6 (absM a0 arr y7) = some (r, w') → K16 a0 y1 y2 y3 y4 y5 y6 y7) : ∀ (x1 : Int32) (x2 : Int32) (x3 : Int32) (x4 : Int32) (x5 : Int32) (x6 : Int32) (x10 : Int32) (σ : St), RF a0 arr σ → g_X12_slotFor_161 LK16 x1 x2 x3 x4 x5 x6 x10 (absM a0 arr σ) = some (r, w') → w_X12_slotFor_161 Q K16 a0 x1 x2 x3 x4 x5 x6 x10 σ := by
  intro x1 x2 x3 x4 x5 x6 x10 σ hR hp
  unfold g_X12_slotFor_161 at hp
  unfold w_X12_slotFor_161
  exact gq_X12_slotFor_162 hq hK16 _ _ _ _ _ _ _ _ hR hp
set_option maxRecDepth 100000 in
set_option maxHeartbeats 1000000 in
theorem gq_X12_slotFor_126 {a0 : Nat} {arr : Nat → Nat} {r : Int32} {w' : MS} {Q : Int32 → St → Prop} (hq : ∀ (s : St) (x : Int32), RF a0 arr s → gret x (absM a0 arr s) = some (r, w') → Q x s) {K16 : Nat → Int32 → Int32 → Int32 → Int32 → Int32 → Int32 → St → Prop} {LK16 : Int32 → Int32 → Int32 → Int32 → Int32 → Int32 → GM (Int32)} (hK16 : ∀ (y1 : Int32) (y2 : Int32) (y3 : Int32) (y4 : Int32) (y5 : Int32) (y6 : Int32) (y7 : St), RF a0 arr y7 → LK16 y1 y2 y3 y4 y5 y6 (absM a0 arr y7) = some (r, w') → K16 a0 y1 y2 y3 y4 y5 y6 y7) : ∀ (x1 : Int32) (x2 : Int32) (x3 : Int32) (x4 : Int32) (x5 : Int32) (x6 : Int32) (x7 : Int32) (x8 : Int32) (xs0 : Int32) (σ : St), RF a0 arr σ → g_X12_slotFor_126 LK16 x1 x2 x3 x4 x5 x6 x7 x8 xs0 (absM a0 arr σ) = some (r, w') → w_X12_slotFor_126 Q K16 a0 x1 x2 x3 x4 x5 x6 x7 x8 xs0 σ := by
  intro x1 x2 x3 x4 x5 x6 x7 x8 xs0 σ hR hp
  unfold g_X12_slotFor_126 at hp
  unfold w_X12_slotFor_126
  intro x69 hx69
  obtain ⟨yx69, ex69, hp⟩ := gbo_some hp
  obtain rfl : yx69 = x69 := ex69.trans hx69.symm
  refine ⟨fun c => ?_, fun c => ?_⟩
  · replace hp := gif_t hp c
    exact gq_X12_slotFor_161 hq hK16 _ _ _ _ _ _ _ _ hR hp
  · replace hp := gif_f hp c
    refine ⟨fun c => ?_, fun c => ?_⟩
    · replace hp := gif_t hp c
      exact gq_X12_slotFor_162 hq hK16 _ _ _ _ _ _ _ _ hR hp
    · replace hp := gif_f hp c
      refine ⟨fun c => ?_, fun c => ?_⟩
      · replace hp := gif_t hp c
        exact gq_X12_slotFor_161 hq hK16 _ _ _ _ _ _ _ _ hR hp
      · replace hp := gif_f hp c
        exact gq_X12_slotFor_162 hq hK16 _ _ _ _ _ _ _ _ hR hp
set_option maxRecDepth 100000 in
set_option maxHeartbeats 1000000 in
theorem gq_X12_slotFor_89 {a0 : Nat} {arr : Nat → Nat} {r : Int32} {w' : MS} {Q : Int32 → St → Prop} (hq : ∀ (s : St) (x : Int32), RF a0 arr s → gret x (absM a0 arr s) = some (r, w') → Q x s) {K16 : Nat → Int32 → Int32 → Int32 → Int32 → Int32 → Int32 → St → Prop} {LK16 : Int32 → Int32 → Int32 → Int32 → Int32 → Int32 → GM (Int32)} (hK16 : ∀ (y1 : Int32) (y2 : Int32) (y3 : Int32) (y4 : Int32) (y5 : Int32) (y6 : Int32) (y7 : St), RF a0 arr y7 → LK16 y1 y2 y3 y4 y5 y6 (absM a0 arr y7) = some (r, w') → K16 a0 y1 y2 y3 y4 y5 y6 y7) : ∀ (x1 : Int32) (x2 : Int32) (x3 : Int32) (x4 : Int32) (x5 : Int32) (x6 : Int32) (x7 : Int32) (xs0 : Int32) (σ : St), RF a0 arr σ → g_X12_slotFor_89 LK16 x1 x2 x3 x4 x5 x6 x7 xs0 (absM a0 arr σ) = some (r, w') → w_X12_slotFor_89 Q K16 a0 x1 x2 x3 x4 x5 x6 x7 xs0 σ := by
  intro x1 x2 x3 x4 x5 x6 x7 xs0 σ hR hp
  unfold g_X12_slotFor_89 at hp
  unfold w_X12_slotFor_89
  replace hp := grd_some hp
  intro o62 ho62
  rw [hR.ref 19 (by decide)] at ho62
  subst ho62
  refine ⟨arr 19, rfl, ?_⟩
  obtain ⟨hv, hp⟩ := gix_some hp
  refine ⟨by rw [hR.len 19 (by first | decide | assumption)]; exact hv, ?_⟩
  refine ⟨fun c => ?_, fun c => ?_⟩
  · replace hp := gif_t hp c
    obtain ⟨x66, w67, he, hp⟩ := gb_some hp
    refine gq_X12_itemIn hR he (fun s67 hR hw => ?_)
    subst hw
    clear he
    refine ⟨fun c => ?_, fun c => ?_⟩
    · replace hp := gif_t hp c
      exact gq_X12_slotFor_126 hq hK16 _ _ _ _ _ _ _ _ _ _ hR hp
    · replace hp := gif_f hp c
      exact gq_X12_slotFor_126 hq hK16 _ _ _ _ _ _ _ _ _ _ hR hp
  · replace hp := gif_f hp c
    exact gq_X12_slotFor_126 hq hK16 _ _ _ _ _ _ _ _ _ _ hR hp
set_option maxRecDepth 100000 in
set_option maxHeartbeats 1000000 in
theorem gq_X12_slotFor_88 {a0 : Nat} {arr : Nat → Nat} {r : Int32} {w' : MS} {Q : Int32 → St → Prop} (hq : ∀ (s : St) (x : Int32), RF a0 arr s → gret x (absM a0 arr s) = some (r, w') → Q x s) {K16 : Nat → Int32 → Int32 → Int32 → Int32 → Int32 → Int32 → St → Prop} {LK16 : Int32 → Int32 → Int32 → Int32 → Int32 → Int32 → GM (Int32)} (hK16 : ∀ (y1 : Int32) (y2 : Int32) (y3 : Int32) (y4 : Int32) (y5 : Int32) (y6 : Int32) (y7 : St), RF a0 arr y7 → LK16 y1 y2 y3 y4 y5 y6 (absM a0 arr y7) = some (r, w') → K16 a0 y1 y2 y3 y4 y5 y6 y7) : ∀ (x1 : Int32) (x2 : Int32) (x3 : Int32) (x4 : Int32) (x5 : Int32) (x6 : Int32) (x7 : Int32) (σ : St), RF a0 arr σ → g_X12_slotFor_88 LK16 x1 x2 x3 x4 x5 x6 x7 (absM a0 arr σ) = some (r, w') → w_X12_slotFor_88 Q K16 a0 x1 x2 x3 x4 x5 x6 x7 σ := by
  intro x1 x2 x3 x4 x5 x6 x7 σ hR hp
  unfold g_X12_slotFor_88 at hp
  unfold w_X12_slotFor_88
  exact gq_X12_slotFor_89 hq hK16 _ _ _ _ _ _ _ _ _ hR hp
set_option maxRecDepth 100000 in
set_option maxHeartbeats 1000000 in
theorem gq_X12_slotFor_16 {a0 : Nat} {arr : Nat → Nat} {r : Int32} {w' : MS} {Q : Int32 → St → Prop} (hq : ∀ (s : St) (x : Int32), RF a0 arr s → gret x (absM a0 arr s) = some (r, w') → Q x s) : ∀ (f : Nat) (x1 : Int32) (x2 : Int32) (x3 : Int32) (x4 : Int32) (x5 : Int32) (x6 : Int32) (σ : St), RF a0 arr σ → g_X12_slotFor_16 f x1 x2 x3 x4 x5 x6 (absM a0 arr σ) = some (r, w') → w_X12_slotFor_16 Q  f a0 x1 x2 x3 x4 x5 x6 σ := by
  intro f
  induction f with
  | zero => intro x1 x2 x3 x4 x5 x6 σ hR hp; cases hp
  | succ f ih =>
    intro x1 x2 x3 x4 x5 x6 σ hR hp
    unfold g_X12_slotFor_16 at hp
    unfold w_X12_slotFor_16
    refine ⟨fun c => ?_, fun c => ?_⟩
    · replace hp := gif_t hp c
      exact hq _ _ hR hp
    · replace hp := gif_f hp c
      obtain ⟨x56, w57, he, hp⟩ := gb_some hp
      refine gq_X12_roomLeft hR he (fun s57 hR hw => ?_)
      subst hw
      clear he
      replace hp := grd_some hp
      intro o58 ho58
      rw [hR.ref 6 (by decide)] at ho58
      subst ho58
      refine ⟨arr 6, rfl, ?_⟩
      obtain ⟨hv, hp⟩ := gix_some hp
      refine ⟨by rw [hR.len 6 (by first | decide | assumption)]; exact hv, ?_⟩
      refine ⟨fun c => ?_, fun c => ?_⟩
      · replace hp := gif_f hp c
        exact gq_X12_slotFor_88 hq ih _ _ _ _ _ _ _ _ hR hp
      · replace hp := gif_t hp c
        intro o74 ho74
        rw [hR.ref 4 (by decide)] at ho74
        subst ho74
        refine ⟨arr 4, rfl, ?_⟩
        obtain ⟨hv, hp⟩ := gix_some hp
        refine ⟨by rw [hR.len 4 (by first | decide | assumption)]; exact hv, ?_⟩
        intro o77 ho77
        rw [hR.ref 9 (by decide)] at ho77
        subst ho77
        refine ⟨arr 9, rfl, ?_⟩
        obtain ⟨hv, hp⟩ := gix_some hp
        refine ⟨by rw [hR.len 9 (by first | decide | assumption)]; exact hv, ?_⟩
        refine ⟨fun c => ?_, fun c => ?_⟩
        · replace hp := gif_f hp c
          exact gq_X12_slotFor_88 hq ih _ _ _ _ _ _ _ _ hR hp
        · replace hp := gif_t hp c
          intro o81 ho81
          rw [hR.ref 10 (by decide)] at ho81
          subst ho81
          refine ⟨arr 10, rfl, ?_⟩
          obtain ⟨hv, hp⟩ := gix_some hp
          refine ⟨by rw [hR.len 10 (by first | decide | assumption)]; exact hv, ?_⟩
          refine ⟨fun c => ?_, fun c => ?_⟩
          · replace hp := gif_t hp c
            exact gq_X12_slotFor_88 hq ih _ _ _ _ _ _ _ _ hR hp
          · replace hp := gif_f hp c
            obtain ⟨x85, w86, he, hp⟩ := gb_some hp
            refine gq_X12_isBarredAt hR he (fun s86 hR hw => ?_)
            subst hw
            clear he
            refine ⟨fun c => ?_, fun c => ?_⟩
            · replace hp := gif_f hp c
              exact gq_X12_slotFor_88 hq ih _ _ _ _ _ _ _ _ hR hp
            · replace hp := gif_t hp c
              exact gq_X12_slotFor_89 hq ih _ _ _ _ _ _ _ _ _ hR hp
set_option maxRecDepth 100000 in
set_option maxHeartbeats 1000000 in
theorem gq_X12_slotFor {a0 : Nat} {arr : Nat → Nat} {σ : St} {x1 : Int32} {x2 : Int32} (hR : RF a0 arr σ) {r : Int32} {w' : MS} (hp : g_X12_slotFor x1 x2 (absM a0 arr σ) = some (r, w')) {Q : Int32 → St → Prop} (hq : ∀ (s : St), RF a0 arr s → absM a0 arr s = w' → Q r s) : w_X12_slotFor a0 x1 x2 σ Q := by
  replace hq : ∀ (s : St) (x : Int32), RF a0 arr s → gret x (absM a0 arr s) = some (r, w') → Q x s := fun s x hR e => by obtain ⟨rfl, hw⟩ := gret_some e; exact hq s hR hw
  unfold g_X12_slotFor at hp
  unfold w_X12_slotFor
  replace hp := grd_some hp
  intro o51 ho51
  rw [hR.ref 16 (by decide)] at ho51
  subst ho51
  refine ⟨arr 16, rfl, ?_⟩
  obtain ⟨hv, hp⟩ := gix_some hp
  refine ⟨by rw [hR.len 16 (by first | decide | assumption)]; exact hv, ?_⟩
  intro x54 hx54
  obtain ⟨yx54, ex54, hp⟩ := gbo_some hp
  obtain rfl : yx54 = x54 := ex54.trans hx54.symm
  refine ⟨FU, ?_⟩
  exact gq_X12_slotFor_16 hq FU _ _ _ _ _ _ _ hR hp
set_option maxRecDepth 100000 in
set_option maxHeartbeats 1000000 in
theorem gq_X12_allocate_16 {a0 : Nat} {arr : Nat → Nat} {r : Int32} {w' : MS} {Q : Int32 → St → Prop} (hq : ∀ (s : St) (x : Int32), RF a0 arr s → gret x (absM a0 arr s) = some (r, w') → Q x s) {K10 : Nat → Int32 → Int32 → St → Prop} {LK10 : Int32 → Int32 → GM (Int32)} (hK10 : ∀ (y1 : Int32) (y2 : Int32) (y3 : St), RF a0 arr y3 → LK10 y1 y2 (absM a0 arr y3) = some (r, w') → K10 a0 y1 y2 y3) : ∀ (f : Nat) (x1 : Int32) (x2 : Int32) (x3 : Int32) (σ : St), RF a0 arr σ → g_X12_allocate_16 LK10 f x1 x2 x3 (absM a0 arr σ) = some (r, w') → w_X12_allocate_16 Q K10 f a0 x1 x2 x3 σ := by
  intro f
  induction f with
  | zero => intro x1 x2 x3 σ hR hp; cases hp
  | succ f ih =>
    intro x1 x2 x3 σ hR hp
    unfold g_X12_allocate_16 at hp
    unfold w_X12_allocate_16
    replace hp := grd_some hp
    refine ⟨fun c => ?_, fun c => ?_⟩
    · replace hp := gif_t hp c
      exact hK10 _ _ _ hR hp
    · replace hp := gif_f hp c
      intro o54 ho54
      rw [hR.ref 32 (by decide)] at ho54
      subst ho54
      refine ⟨arr 32, rfl, ?_⟩
      obtain ⟨hv, hp⟩ := gix_some hp
      refine ⟨by rw [hR.len 32 (by first | decide | assumption)]; exact hv, ?_⟩
      refine ⟨fun c => ?_, fun c => ?_⟩
      · replace hp := gif_f hp c
        intro x58 hx58
        obtain ⟨yx58, ex58, hp⟩ := gbo_some hp
        obtain rfl : yx58 = x58 := ex58.trans hx58.symm
        exact ih _ _ _ _ hR hp
      · replace hp := gif_t hp c
        intro o59 ho59
        rw [hR.ref 28 (by decide)] at ho59
        subst ho59
        refine ⟨arr 28, rfl, ?_⟩
        obtain ⟨hv, hp⟩ := gix_some hp
        refine ⟨by rw [hR.len 28 (by first | decide | assumption)]; exact hv, ?_⟩
        refine ⟨fun c => ?_, fun c => ?_⟩
        · replace hp := gif_f hp c
          intro x63 hx63
          obtain ⟨yx63, ex63, hp⟩ := gbo_some hp
          obtain rfl : yx63 = x63 := ex63.trans hx63.symm
          exact ih _ _ _ _ hR hp
        · replace hp := gif_t hp c
          obtain ⟨x64, w65, he, hp⟩ := gb_some hp
          refine gq_X12_allocates hR he (fun s65 hR hw => ?_)
          subst hw
          clear he
          intro x66 hx66
          obtain ⟨yx66, ex66, hp⟩ := gbo_some hp
          obtain rfl : yx66 = x66 := ex66.trans hx66.symm
          exact ih _ _ _ _ hR hp
set_option maxRecDepth 100000 in
set_option maxHeartbeats 1000000 in
theorem gq_X12_allocate_10 {a0 : Nat} {arr : Nat → Nat} {r : Int32} {w' : MS} {Q : Int32 → St → Prop} (hq : ∀ (s : St) (x : Int32), RF a0 arr s → gret x (absM a0 arr s) = some (r, w') → Q x s) : ∀ (f : Nat) (x1 : Int32) (x2 : Int32) (σ : St), RF a0 arr σ → g_X12_allocate_10 f x1 x2 (absM a0 arr σ) = some (r, w') → w_X12_allocate_10 Q  f a0 x1 x2 σ := by
  intro f
  induction f with
  | zero => intro x1 x2 σ hR hp; cases hp
  | succ f ih =>
    intro x1 x2 σ hR hp
    unfold g_X12_allocate_10 at hp
    unfold w_X12_allocate_10
    refine ⟨fun c => ?_, fun c => ?_⟩
    · replace hp := gif_t hp c
      exact hq _ _ hR hp
    · replace hp := gif_f hp c
      refine ⟨FU, ?_⟩
      exact gq_X12_allocate_16 hq ih FU _ _ _ _ hR hp
set_option maxRecDepth 100000 in
set_option maxHeartbeats 1000000 in
theorem gq_X12_allocate {a0 : Nat} {arr : Nat → Nat} {σ : St}  (hR : RF a0 arr σ) {r : Int32} {w' : MS} (hp : g_X12_allocate (absM a0 arr σ) = some (r, w')) {Q : Int32 → St → Prop} (hq : ∀ (s : St), RF a0 arr s → absM a0 arr s = w' → Q r s) : w_X12_allocate a0 σ Q := by
  replace hq : ∀ (s : St) (x : Int32), RF a0 arr s → gret x (absM a0 arr s) = some (r, w') → Q x s := fun s x hR e => by obtain ⟨rfl, hw⟩ := gret_some e; exact hq s hR hw
  unfold g_X12_allocate at hp
  unfold w_X12_allocate
  intro s51 hs51
  have h2 := abs_setI (arr := arr) 0 (by decide) hs51
  replace hR := hR.setI hs51
  replace hp := gst_up hp h2
  clear h2 hs51
  refine ⟨FU, ?_⟩
  exact gq_X12_allocate_10 hq FU _ _ _ hR hp
set_option maxRecDepth 100000 in
set_option maxHeartbeats 1000000 in
theorem gq_X12_putAway_51 {a0 : Nat} {arr : Nat → Nat} {r : Int32} {w' : MS} {Q : Int32 → St → Prop} (hq : ∀ (s : St) (x : Int32), RF a0 arr s → gret x (absM a0 arr s) = some (r, w') → Q x s) : ∀ (x1 : Int32) (x2 : Int32) (xs1 : Int32) (σ : St), RF a0 arr σ → g_X12_putAway_51 x1 x2 xs1 (absM a0 arr σ) = some (r, w') → w_X12_putAway_51 Q  a0 x1 x2 a0 xs1 σ := by
  intro x1 x2 xs1 σ hR hp
  unfold g_X12_putAway_51 at hp
  unfold w_X12_putAway_51
  obtain ⟨x60, w61, he, hp⟩ := gb_some hp
  refine gq_X12_holds hR he (fun s61 hR hw => ?_)
  subst hw
  clear he
  refine ⟨fun c => ?_, fun c => ?_⟩
  · replace hp := gif_f hp c
    obtain ⟨x63, w64, he, hp⟩ := gb_some hp
    refine gq_X12_slotFor hR he (fun s64 hR hw => ?_)
    subst hw
    clear he
    refine ⟨fun c => ?_, fun c => ?_⟩
    · replace hp := gif_t hp c
      exact hq _ _ hR hp
    · replace hp := gif_f hp c
      obtain ⟨x66, w67, he, hp⟩ := gb_some hp
      refine gq_X12_makes hR he (fun s67 hR hw => ?_)
      subst hw
      clear he
      exact hq _ _ hR hp
  · replace hp := gif_t hp c
    exact hq _ _ hR hp
set_option maxRecDepth 100000 in
set_option maxHeartbeats 1000000 in
theorem gq_X12_putAway {a0 : Nat} {arr : Nat → Nat} {σ : St} {x1 : Int32} {x2 : Int32} (hR : RF a0 arr σ) {r : Int32} {w' : MS} (hp : g_X12_putAway x1 x2 (absM a0 arr σ) = some (r, w')) {Q : Int32 → St → Prop} (hq : ∀ (s : St), RF a0 arr s → absM a0 arr s = w' → Q r s) : w_X12_putAway a0 x1 x2 σ Q := by
  replace hq : ∀ (s : St) (x : Int32), RF a0 arr s → gret x (absM a0 arr s) = some (r, w') → Q x s := fun s x hR e => by obtain ⟨rfl, hw⟩ := gret_some e; exact hq s hR hw
  unfold g_X12_putAway at hp
  unfold w_X12_putAway
  obtain ⟨x51, w52, he, hp⟩ := gb_some hp
  refine gq_X12_isLot hR he (fun s52 hR hw => ?_)
  subst hw
  clear he
  refine ⟨fun c => ?_, fun c => ?_⟩
  · replace hp := gif_f hp c
    obtain ⟨x54, w55, he, hp⟩ := gb_some hp
    refine gq_X12_arePieces hR he (fun s55 hR hw => ?_)
    subst hw
    clear he
    refine ⟨fun c => ?_, fun c => ?_⟩
    · replace hp := gif_f hp c
      obtain ⟨x57, w58, he, hp⟩ := gb_some hp
      refine gq_X12_freeAt hR he (fun s58 hR hw => ?_)
      subst hw
      clear he
      replace hp := grd_some hp
      refine ⟨fun c => ?_, fun c => ?_⟩
      · replace hp := gif_t hp c
        exact gq_X12_putAway_51 hq _ _ _ _ hR hp
      · replace hp := gif_f hp c
        refine ⟨fun c => ?_, fun c => ?_⟩
        · replace hp := gif_f hp c
          exact gq_X12_putAway_51 hq _ _ _ _ hR hp
        · replace hp := gif_t hp c
          exact gq_X12_putAway_51 hq _ _ _ _ hR hp
    · replace hp := gif_t hp c
      exact gq_X12_putAway_51 hq _ _ _ _ hR hp
  · replace hp := gif_t hp c
    exact gq_X12_putAway_51 hq _ _ _ _ hR hp
set_option maxRecDepth 100000 in
set_option maxHeartbeats 1000000 in
theorem gq_X12_turns_153 {a0 : Nat} {arr : Nat → Nat} {r : Unit} {w' : MS} {Q : St → Prop} (hq : ∀ (s : St), RF a0 arr s → gret () (absM a0 arr s) = some (r, w') → Q s) : ∀ (xs1 : Int32) (xs2 : Int32) (xs3 : Int32) (σ : St), RF a0 arr σ → g_X12_turns_153 xs1 xs2 xs3 (absM a0 arr σ) = some (r, w') → w_X12_turns_153 Q  a0 xs1 xs2 xs3 σ := by
  intro xs1 xs2 xs3 σ hR hp
  unfold g_X12_turns_153 at hp
  unfold w_X12_turns_153
  obtain ⟨u74, w74, he, hp⟩ := gb_some hp
  refine gq_X12_goesTo hR he (fun s74 hR hw => ?_)
  subst hw
  clear he
  exact hq _ hR hp
set_option maxRecDepth 100000 in
set_option maxHeartbeats 1000000 in
theorem gq_X12_turns_138 {a0 : Nat} {arr : Nat → Nat} {r : Unit} {w' : MS} {Q : St → Prop} (hq : ∀ (s : St), RF a0 arr s → gret () (absM a0 arr s) = some (r, w') → Q s) : ∀ (x2 : Int32) (xs1 : Int32) (xs2 : Int32) (σ : St), RF a0 arr σ → g_X12_turns_138 x2 xs1 xs2 (absM a0 arr σ) = some (r, w') → w_X12_turns_138 Q  a0 x2 a0 xs1 xs2 σ := by
  intro x2 xs1 xs2 σ hR hp
  unfold g_X12_turns_138 at hp
  unfold w_X12_turns_138
  replace hp := grd_some hp
  intro o70 ho70
  rw [hR.ref 48 (by decide)] at ho70
  subst ho70
  refine ⟨arr 48, rfl, ?_⟩
  obtain ⟨hv, hp⟩ := gix_some hp
  refine ⟨by rw [hR.len 48 (by first | decide | assumption)]; exact hv, ?_⟩
  exact gq_X12_turns_153 hq _ _ _ _ hR hp
set_option maxRecDepth 100000 in
set_option maxHeartbeats 1000000 in
theorem gq_X12_turns_147 {a0 : Nat} {arr : Nat → Nat} {r : Unit} {w' : MS} {Q : St → Prop} (hq : ∀ (s : St), RF a0 arr s → gret () (absM a0 arr s) = some (r, w') → Q s) : ∀ (x2 : Int32) (xs1 : Int32) (xs2 : Int32) (σ : St), RF a0 arr σ → g_X12_turns_147 x2 xs1 xs2 (absM a0 arr σ) = some (r, w') → w_X12_turns_147 Q  a0 x2 a0 xs1 xs2 σ := by
  intro x2 xs1 xs2 σ hR hp
  unfold g_X12_turns_147 at hp
  unfold w_X12_turns_147
  replace hp := grd_some hp
  intro o79 ho79
  rw [hR.ref 49 (by decide)] at ho79
  subst ho79
  refine ⟨arr 49, rfl, ?_⟩
  obtain ⟨hv, hp⟩ := gix_some hp
  refine ⟨by rw [hR.len 49 (by first | decide | assumption)]; exact hv, ?_⟩
  exact gq_X12_turns_153 hq _ _ _ _ hR hp
set_option maxRecDepth 100000 in
set_option maxHeartbeats 1000000 in
theorem gq_X12_turns_102 {a0 : Nat} {arr : Nat → Nat} {r : Unit} {w' : MS} {Q : St → Prop} (hq : ∀ (s : St), RF a0 arr s → gret () (absM a0 arr s) = some (r, w') → Q s) : ∀ (x1 : Int32) (x2 : Int32) (x3 : Int32) (σ : St), RF a0 arr σ → g_X12_turns_102 x1 x2 x3 (absM a0 arr σ) = some (r, w') → w_X12_turns_102 Q  a0 x1 x2 x3 σ := by
  intro x1 x2 x3 σ hR hp
  unfold g_X12_turns_102 at hp
  unfold w_X12_turns_102
  replace hp := grd_some hp
  refine ⟨fun c => ?_, fun c => ?_⟩
  · replace hp := gif_f hp c
    exact hq _ hR hp
  · replace hp := gif_t hp c
    intro o66 ho66
    rw [hR.ref 46 (by decide)] at ho66
    subst ho66
    refine ⟨arr 46, rfl, ?_⟩
    obtain ⟨hv, hp⟩ := gix_some hp
    refine ⟨by rw [hR.len 46 (by first | decide | assumption)]; exact hv, ?_⟩
    refine ⟨fun c => ?_, fun c => ?_⟩
    · replace hp := gif_t hp c
      exact gq_X12_turns_138 hq _ _ _ _ hR hp
    · replace hp := gif_f hp c
      intro o75 ho75
      rw [hR.ref 46 (by decide)] at ho75
      subst ho75
      refine ⟨arr 46, rfl, ?_⟩
      obtain ⟨hv, hp⟩ := gix_some hp
      refine ⟨by rw [hR.len 46 (by first | decide | assumption)]; exact hv, ?_⟩
      refine ⟨fun c => ?_, fun c => ?_⟩
      · replace hp := gif_f hp c
        exact gq_X12_turns_147 hq _ _ _ _ hR hp
      · replace hp := gif_t hp c
        intro o82 ho82
        rw [hR.ref 54 (by decide)] at ho82
        subst ho82
        refine ⟨arr 54, rfl, ?_⟩
        obtain ⟨hv, hp⟩ := gix_some hp
        refine ⟨by rw [hR.len 54 (by first | decide | assumption)]; exact hv, ?_⟩
        refine ⟨fun c => ?_, fun c => ?_⟩
        · replace hp := gif_f hp c
          exact gq_X12_turns_147 hq _ _ _ _ hR hp
        · replace hp := gif_t hp c
          exact gq_X12_turns_138 hq _ _ _ _ hR hp
set_option maxRecDepth 100000 in
set_option maxHeartbeats 1000000 in
theorem gq_X12_turns_83 {a0 : Nat} {arr : Nat → Nat} {r : Unit} {w' : MS} {Q : St → Prop} (hq : ∀ (s : St), RF a0 arr s → gret () (absM a0 arr s) = some (r, w') → Q s) : ∀ (x1 : Int32) (x2 : Int32) (x3 : Int32) (σ : St), RF a0 arr σ → g_X12_turns_83 x1 x2 x3 (absM a0 arr σ) = some (r, w') → w_X12_turns_83 Q  a0 x1 x2 x3 σ := by
  intro x1 x2 x3 σ hR hp
  unfold g_X12_turns_83 at hp
  unfold w_X12_turns_83
  refine ⟨fun c => ?_, fun c => ?_⟩
  · replace hp := gif_t hp c
    exact gq_X12_turns_102 hq _ _ _ _ hR hp
  · replace hp := gif_f hp c
    refine ⟨fun c => ?_, fun c => ?_⟩
    · replace hp := gif_t hp c
      exact gq_X12_turns_102 hq _ _ _ _ hR hp
    · replace hp := gif_f hp c
      intro o87 ho87
      rw [hR.ref 54 (by decide)] at ho87
      subst ho87
      refine ⟨arr 54, rfl, ?_⟩
      obtain ⟨hv, hp⟩ := gix_some hp
      refine ⟨by rw [hR.len 54 (by first | decide | assumption)]; exact hv, ?_⟩
      intro s90 hs90
      have h2 := abs_setA hR 54 (by first | decide | assumption) hs90
      replace hR := hR.setA hs90
      replace hp := gst_up hp h2
      clear h2 hs90
      exact hq _ hR hp
set_option maxRecDepth 100000 in
set_option maxHeartbeats 1000000 in
theorem gq_X12_turns_58 {a0 : Nat} {arr : Nat → Nat} {r : Unit} {w' : MS} {Q : St → Prop} (hq : ∀ (s : St), RF a0 arr s → gret () (absM a0 arr s) = some (r, w') → Q s) : ∀ (x1 : Int32) (x2 : Int32) (xs0 : Int32) (σ : St), RF a0 arr σ → g_X12_turns_58 x1 x2 xs0 (absM a0 arr σ) = some (r, w') → w_X12_turns_58 Q  a0 x1 x2 xs0 σ := by
  intro x1 x2 xs0 σ hR hp
  unfold g_X12_turns_58 at hp
  unfold w_X12_turns_58
  replace hp := grd_some hp
  refine ⟨fun c => ?_, fun c => ?_⟩
  · replace hp := gif_t hp c
    exact gq_X12_turns_83 hq _ _ _ _ hR hp
  · replace hp := gif_f hp c
    intro o91 ho91
    rw [hR.ref 55 (by decide)] at ho91
    subst ho91
    refine ⟨arr 55, rfl, ?_⟩
    obtain ⟨hv, hp⟩ := gix_some hp
    refine ⟨by rw [hR.len 55 (by first | decide | assumption)]; exact hv, ?_⟩
    refine ⟨fun c => ?_, fun c => ?_⟩
    · replace hp := gif_t hp c
      exact gq_X12_turns_83 hq _ _ _ _ hR hp
    · replace hp := gif_f hp c
      intro o95 ho95
      rw [hR.ref 55 (by decide)] at ho95
      subst ho95
      refine ⟨arr 55, rfl, ?_⟩
      obtain ⟨hv, hp⟩ := gix_some hp
      refine ⟨by rw [hR.len 55 (by first | decide | assumption)]; exact hv, ?_⟩
      intro s98 hs98
      have h2 := abs_setA hR 55 (by first | decide | assumption) hs98
      replace hR := hR.setA hs98
      replace hp := gst_up hp h2
      clear h2 hs98
      exact hq _ hR hp
set_option maxRecDepth 100000 in
set_option maxHeartbeats 1000000 in
theorem gq_X12_turns_57 {a0 : Nat} {arr : Nat → Nat} {r : Unit} {w' : MS} {Q : St → Prop} (hq : ∀ (s : St), RF a0 arr s → gret () (absM a0 arr s) = some (r, w') → Q s) : ∀ (x1 : Int32) (x2 : Int32) (σ : St), RF a0 arr σ → g_X12_turns_57 x1 x2 (absM a0 arr σ) = some (r, w') → w_X12_turns_57 Q  a0 x1 x2 σ := by
  intro x1 x2 σ hR hp
  unfold g_X12_turns_57 at hp
  unfold w_X12_turns_57
  exact gq_X12_turns_58 hq _ _ _ _ hR hp
set_option maxRecDepth 100000 in
set_option maxHeartbeats 1000000 in
theorem gq_X12_turns_29 {a0 : Nat} {arr : Nat → Nat} {r : Unit} {w' : MS} {Q : St → Prop} (hq : ∀ (s : St), RF a0 arr s → gret () (absM a0 arr s) = some (r, w') → Q s) : ∀ (x1 : Int32) (xs0 : Int32) (σ : St), RF a0 arr σ → g_X12_turns_29 x1 xs0 (absM a0 arr σ) = some (r, w') → w_X12_turns_29 Q  a0 x1 xs0 σ := by
  intro x1 xs0 σ hR hp
  unfold g_X12_turns_29 at hp
  unfold w_X12_turns_29
  replace hp := grd_some hp
  refine ⟨fun c => ?_, fun c => ?_⟩
  · replace hp := gif_t hp c
    exact gq_X12_turns_58 hq _ _ _ _ hR hp
  · replace hp := gif_f hp c
    intro o99 ho99
    rw [hR.ref 46 (by decide)] at ho99
    subst ho99
    refine ⟨arr 46, rfl, ?_⟩
    obtain ⟨hv, hp⟩ := gix_some hp
    refine ⟨by rw [hR.len 46 (by first | decide | assumption)]; exact hv, ?_⟩
    refine ⟨fun c => ?_, fun c => ?_⟩
    · replace hp := gif_f hp c
      exact gq_X12_turns_57 hq _ _ _ hR hp
    · replace hp := gif_t hp c
      intro o103 ho103
      rw [hR.ref 54 (by decide)] at ho103
      subst ho103
      refine ⟨arr 54, rfl, ?_⟩
      obtain ⟨hv, hp⟩ := gix_some hp
      refine ⟨by rw [hR.len 54 (by first | decide | assumption)]; exact hv, ?_⟩
      refine ⟨fun c => ?_, fun c => ?_⟩
      · replace hp := gif_f hp c
        exact gq_X12_turns_57 hq _ _ _ hR hp
      · replace hp := gif_t hp c
        exact gq_X12_turns_58 hq _ _ _ _ hR hp
set_option maxRecDepth 100000 in
set_option maxHeartbeats 1000000 in
theorem gq_X12_turns {a0 : Nat} {arr : Nat → Nat} {σ : St} {x1 : Int32} (hR : RF a0 arr σ) {r : Unit} {w' : MS} (hp : g_X12_turns x1 (absM a0 arr σ) = some (r, w')) {Q : St → Prop} (hq : ∀ (s : St), RF a0 arr s → absM a0 arr s = w' → Q s) : w_X12_turns a0 x1 σ Q := by
  replace hq : ∀ (s : St), RF a0 arr s → gret () (absM a0 arr s) = some (r, w') → Q s := fun s hR e => by obtain ⟨rfl, hw⟩ := gret_some e; exact hq s hR hw
  unfold g_X12_turns at hp
  unfold w_X12_turns
  intro o51 ho51
  rw [hR.ref 57 (by decide)] at ho51
  subst ho51
  refine ⟨arr 57, rfl, ?_⟩
  obtain ⟨hv, hp⟩ := gix_some hp
  refine ⟨by rw [hR.len 57 (by first | decide | assumption)]; exact hv, ?_⟩
  intro s54 hs54
  have h2 := abs_setA hR 57 (by first | decide | assumption) hs54
  replace hR := hR.setA hs54
  replace hp := gst_up hp h2
  clear h2 hs54
  replace hp := grd_some hp
  intro o55 ho55
  rw [hR.ref 59 (by decide)] at ho55
  subst ho55
  refine ⟨arr 59, rfl, ?_⟩
  obtain ⟨hv, hp⟩ := gix_some hp
  refine ⟨by rw [hR.len 59 (by first | decide | assumption)]; exact hv, ?_⟩
  refine ⟨fun c => ?_, fun c => ?_⟩
  · replace hp := gif_f hp c
    intro o59 ho59
    rw [hR.ref 58 (by decide)] at ho59
    subst ho59
    refine ⟨arr 58, rfl, ?_⟩
    obtain ⟨hv, hp⟩ := gix_some hp
    refine ⟨by rw [hR.len 58 (by first | decide | assumption)]; exact hv, ?_⟩
    exact gq_X12_turns_29 hq _ _ _ hR hp
  · replace hp := gif_t hp c
    exact gq_X12_turns_29 hq _ _ _ hR hp
set_option maxRecDepth 100000 in
set_option maxHeartbeats 1000000 in
theorem gq_X12_ticks_32 {a0 : Nat} {arr : Nat → Nat} {r : Unit} {w' : MS} {Q : St → Prop} (hq : ∀ (s : St), RF a0 arr s → gret () (absM a0 arr s) = some (r, w') → Q s) : ∀ (f : Nat) (x1 : Int32) (x2 : Int32) (σ : St), RF a0 arr σ → g_X12_ticks_32 f x1 x2 (absM a0 arr σ) = some (r, w') → w_X12_ticks_32 Q  f a0 x1 x2 σ := by
  intro f
  induction f with
  | zero => intro x1 x2 σ hR hp; cases hp
  | succ f ih =>
    intro x1 x2 σ hR hp
    unfold g_X12_ticks_32 at hp
    unfold w_X12_ticks_32
    refine ⟨fun c => ?_, fun c => ?_⟩
    · replace hp := gif_t hp c
      refine ⟨fun c => ?_, fun c => ?_⟩
      · replace hp := gif_t hp c
        exact hq _ hR hp
      · replace hp := gif_f hp c
        intro o55 ho55
        rw [hR.ref 55 (by decide)] at ho55
        subst ho55
        refine ⟨arr 55, rfl, ?_⟩
        obtain ⟨hv, hp⟩ := gix_some hp
        refine ⟨by rw [hR.len 55 (by first | decide | assumption)]; exact hv, ?_⟩
        intro s58 hs58
        have h2 := abs_setA hR 55 (by first | decide | assumption) hs58
        replace hR := hR.setA hs58
        replace hp := gst_up hp h2
        clear h2 hs58
        replace hp := grd_some hp
        intro s59 hs59
        have h2 := abs_setI (arr := arr) 3 (by decide) hs59
        replace hR := hR.setI hs59
        replace hp := gst_up hp h2
        clear h2 hs59
        exact hq _ hR hp
    · replace hp := gif_f hp c
      obtain ⟨x60, w61, he, hp⟩ := gb_some hp
      refine gq_X12_isInRing hR he (fun s61 hR hw => ?_)
      subst hw
      clear he
      refine ⟨fun c => ?_, fun c => ?_⟩
      · replace hp := gif_t hp c
        exact ih _ _ _ hR hp
      · replace hp := gif_f hp c
        exact ih _ _ _ hR hp
set_option maxRecDepth 100000 in
set_option maxHeartbeats 1000000 in
theorem gq_X12_ticks_12 {a0 : Nat} {arr : Nat → Nat} {r : Unit} {w' : MS} {Q : St → Prop} (hq : ∀ (s : St), RF a0 arr s → gret () (absM a0 arr s) = some (r, w') → Q s) : ∀ (f : Nat) (x1 : Int32) (σ : St), RF a0 arr σ → g_X12_ticks_12 f x1 (absM a0 arr σ) = some (r, w') → w_X12_ticks_12 Q  f a0 x1 σ := by
  intro f
  induction f with
  | zero => intro x1 σ hR hp; cases hp
  | succ f ih =>
    intro x1 σ hR hp
    unfold g_X12_ticks_12 at hp
    unfold w_X12_ticks_12
    refine ⟨fun c => ?_, fun c => ?_⟩
    · replace hp := gif_t hp c
      refine ⟨FU, ?_⟩
      exact gq_X12_ticks_32 hq FU _ _ _ hR hp
    · replace hp := gif_f hp c
      obtain ⟨u65, w65, he, hp⟩ := gb_some hp
      refine gq_X12_turns hR he (fun s65 hR hw => ?_)
      subst hw
      clear he
      exact ih _ _ hR hp
set_option maxRecDepth 100000 in
set_option maxHeartbeats 1000000 in
theorem gq_X12_ticks {a0 : Nat} {arr : Nat → Nat} {σ : St}  (hR : RF a0 arr σ) {r : Unit} {w' : MS} (hp : g_X12_ticks (absM a0 arr σ) = some (r, w')) {Q : St → Prop} (hq : ∀ (s : St), RF a0 arr s → absM a0 arr s = w' → Q s) : w_X12_ticks a0 σ Q := by
  replace hq : ∀ (s : St), RF a0 arr s → gret () (absM a0 arr s) = some (r, w') → Q s := fun s hR e => by obtain ⟨rfl, hw⟩ := gret_some e; exact hq s hR hw
  unfold g_X12_ticks at hp
  unfold w_X12_ticks
  replace hp := grd_some hp
  intro s51 hs51
  have h2 := abs_setI (arr := arr) 1 (by decide) hs51
  replace hR := hR.setI hs51
  replace hp := gst_up hp h2
  clear h2 hs51
  refine ⟨FU, ?_⟩
  exact gq_X12_ticks_12 hq FU _ _ hR hp
set_option maxRecDepth 100000 in
set_option maxHeartbeats 1000000 in
theorem gq_X12_pass_26 {a0 : Nat} {arr : Nat → Nat} {r : Int32} {w' : MS} {Q : Int32 → St → Prop} (hq : ∀ (s : St) (x : Int32), RF a0 arr s → gret x (absM a0 arr s) = some (r, w') → Q x s) : ∀ (f : Nat) (x1 : Int32) (x2 : Int32) (σ : St), RF a0 arr σ → g_X12_pass_26 f x1 x2 (absM a0 arr σ) = some (r, w') → w_X12_pass_26 Q  f a0 x1 x2 σ := by
  intro f
  induction f with
  | zero => intro x1 x2 σ hR hp; cases hp
  | succ f ih =>
    intro x1 x2 σ hR hp
    unfold g_X12_pass_26 at hp
    unfold w_X12_pass_26
    replace hp := grd_some hp
    refine ⟨fun c => ?_, fun c => ?_⟩
    · replace hp := gif_t hp c
      exact hq _ _ hR hp
    · replace hp := gif_f hp c
      obtain ⟨u59, w59, he, hp⟩ := gb_some hp
      refine gq_X12_ticks hR he (fun s59 hR hw => ?_)
      subst hw
      clear he
      exact ih _ _ _ hR hp
set_option maxRecDepth 100000 in
set_option maxHeartbeats 1000000 in
theorem gq_X12_pass_16 {a0 : Nat} {arr : Nat → Nat} {r : Int32} {w' : MS} {Q : Int32 → St → Prop} (hq : ∀ (s : St) (x : Int32), RF a0 arr s → gret x (absM a0 arr s) = some (r, w') → Q x s) : ∀ (x1 : Int32) (xs1 : Int32) (σ : St), RF a0 arr σ → g_X12_pass_16 x1 xs1 (absM a0 arr σ) = some (r, w') → w_X12_pass_16 Q  a0 x1 a0 xs1 σ := by
  intro x1 xs1 σ hR hp
  unfold g_X12_pass_16 at hp
  unfold w_X12_pass_16
  obtain ⟨x54, w55, he, hp⟩ := gb_some hp
  refine gq_X12_holds hR he (fun s55 hR hw => ?_)
  subst hw
  clear he
  refine ⟨fun c => ?_, fun c => ?_⟩
  · replace hp := gif_f hp c
    refine ⟨FU, ?_⟩
    exact gq_X12_pass_26 hq FU _ _ _ hR hp
  · replace hp := gif_t hp c
    exact hq _ _ hR hp
set_option maxRecDepth 100000 in
set_option maxHeartbeats 1000000 in
theorem gq_X12_pass {a0 : Nat} {arr : Nat → Nat} {σ : St} {x1 : Int32} (hR : RF a0 arr σ) {r : Int32} {w' : MS} (hp : g_X12_pass x1 (absM a0 arr σ) = some (r, w')) {Q : Int32 → St → Prop} (hq : ∀ (s : St), RF a0 arr s → absM a0 arr s = w' → Q r s) : w_X12_pass a0 x1 σ Q := by
  replace hq : ∀ (s : St) (x : Int32), RF a0 arr s → gret x (absM a0 arr s) = some (r, w') → Q x s := fun s x hR e => by obtain ⟨rfl, hw⟩ := gret_some e; exact hq s hR hw
  unfold g_X12_pass at hp
  unfold w_X12_pass
  obtain ⟨x51, w52, he, hp⟩ := gb_some hp
  refine gq_X12_isIn hR he (fun s52 hR hw => ?_)
  subst hw
  clear he
  refine ⟨fun c => ?_, fun c => ?_⟩
  · replace hp := gif_t hp c
    exact gq_X12_pass_16 hq _ _ _ hR hp
  · replace hp := gif_f hp c
    exact gq_X12_pass_16 hq _ _ _ hR hp
