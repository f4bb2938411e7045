set_option maxRecDepth 100000 in
set_option maxHeartbeats 1000000 in
theorem gq_X12_bill {a0 : Nat} {arr : Nat → Nat} {σ : St}  (hR : RF a0 arr σ) {r : Int32} {w' : MS} (hp : g_X12_bill (absM a0 arr σ) = some (r, w')) {Q : Int32 → St → Prop} (hq : ∀ (s : St), RF a0 arr s → absM a0 arr s = w' → Q r s) : w_X12_bill a0 σ Q := by
  replace hq : ∀ (s : St) (x : Int32), RF a0 arr s → gret x (absM a0 arr s) = some (r, w') → Q x s := fun s x hR e => by obtain ⟨rfl, hw⟩ := gret_some e; exact hq s hR hw
  unfold g_X12_bill at hp
  unfold w_X12_bill
  intro s51 hs51
  have h2 := abs_setI (arr := arr) 0 (by decide) hs51
  replace hR := hR.setI hs51
  replace hp := gst_up hp h2
  clear h2 hs51
  replace hp := grd_some hp
  exact hq _ _ hR hp
set_option maxRecDepth 100000 in
set_option maxHeartbeats 1000000 in
theorem gq_X12_books {a0 : Nat} {arr : Nat → Nat} {σ : St} {x1 : Int32} {x2 : Int32} {x3 : Int32} (hR : RF a0 arr σ) {r : Unit} {w' : MS} (hp : g_X12_books x1 x2 x3 (absM a0 arr σ) = some (r, w')) {Q : St → Prop} (hq : ∀ (s : St), RF a0 arr s → absM a0 arr s = w' → Q s) : w_X12_books a0 x1 x2 x3 σ Q := by
  replace hq : ∀ (s : St), RF a0 arr s → gret () (absM a0 arr s) = some (r, w') → Q s := fun s hR e => by obtain ⟨rfl, hw⟩ := gret_some e; exact hq s hR hw
  unfold g_X12_books at hp
  unfold w_X12_books
  replace hp := grd_some hp
  intro o51 ho51
  rw [hR.ref 19 (by decide)] at ho51
  subst ho51
  intro x52 hx52
  obtain ⟨yx52, ex52, hp⟩ := gbo_some hp
  obtain rfl : yx52 = x52 := ex52.trans hx52.symm
  refine ⟨arr 19, rfl, ?_⟩
  obtain ⟨hv, hp⟩ := gix_some hp
  refine ⟨by rw [hR.len 19 (by first | decide | assumption)]; exact hv, ?_⟩
  obtain ⟨hv, hp⟩ := gix_some hp
  refine ⟨by rw [hR.len 19 (by first | decide | assumption)]; exact hv, ?_⟩
  intro s56 hs56
  have h2 := abs_setA hR 19 (by first | decide | assumption) hs56
  replace hR := hR.setA hs56
  replace hp := gst_up hp h2
  clear h2 hs56
  refine ⟨fun c => ?_, fun c => ?_⟩
  · replace hp := gif_t hp c
    exact hq _ hR hp
  · replace hp := gif_f hp c
    refine ⟨fun c => ?_, fun c => ?_⟩
    · replace hp := gif_t hp c
      exact hq _ hR hp
    · replace hp := gif_f hp c
      intro o59 ho59
      rw [hR.ref 21 (by decide)] at ho59
      subst ho59
      refine ⟨arr 21, rfl, ?_⟩
      obtain ⟨hv, hp⟩ := gix_some hp
      refine ⟨by rw [hR.len 21 (by first | decide | assumption)]; exact hv, ?_⟩
      intro s62 hs62
      have h2 := abs_setA hR 21 (by first | decide | assumption) hs62
      replace hR := hR.setA hs62
      replace hp := gst_up hp h2
      clear h2 hs62
      exact hq _ hR hp
set_option maxRecDepth 100000 in
set_option maxHeartbeats 1000000 in
theorem gq_X12_cameOf_36 {a0 : Nat} {arr : Nat → Nat} {r : Int32} {w' : MS} {Q : Int32 → St → Prop} (hq : ∀ (s : St) (x : Int32), RF a0 arr s → gret x (absM a0 arr s) = some (r, w') → Q x s) {K5 : Nat → Int32 → Int32 → Int32 → Int32 → St → Prop} {LK5 : Int32 → Int32 → Int32 → Int32 → GM (Int32)} (hK5 : ∀ (y1 : Int32) (y2 : Int32) (y3 : Int32) (y4 : Int32) (y5 : St), RF a0 arr y5 → LK5 y1 y2 y3 y4 (absM a0 arr y5) = some (r, w') → K5 a0 y1 y2 y3 y4 y5) : ∀ (x1 : Int32) (x2 : Int32) (x4 : Int32) (xs0 : Int32) (xs1 : Int32) (σ : St), RF a0 arr σ → g_X12_cameOf_36 LK5 x1 x2 x4 xs0 xs1 (absM a0 arr σ) = some (r, w') → w_X12_cameOf_36 Q K5 a0 x1 x2 x4 xs0 xs1 σ := by
  intro x1 x2 x4 xs0 xs1 σ hR hp
  unfold g_X12_cameOf_36 at hp
  unfold w_X12_cameOf_36
  replace hp := grd_some hp
  refine ⟨fun c => ?_, fun c => ?_⟩
  · replace hp := gif_f hp c
    intro x60 hx60
    obtain ⟨yx60, ex60, hp⟩ := gbo_some hp
    obtain rfl : yx60 = x60 := ex60.trans hx60.symm
    exact hK5 _ _ _ _ _ hR hp
  · replace hp := gif_t hp c
    intro o61 ho61
    rw [hR.ref 26 (by decide)] at ho61
    subst ho61
    refine ⟨arr 26, rfl, ?_⟩
    obtain ⟨hv, hp⟩ := gix_some hp
    refine ⟨by rw [hR.len 26 (by first | decide | assumption)]; exact hv, ?_⟩
    intro x64 hx64
    obtain ⟨yx64, ex64, hp⟩ := gbo_some hp
    obtain rfl : yx64 = x64 := ex64.trans hx64.symm
    exact hK5 _ _ _ _ _ hR hp
set_option maxRecDepth 100000 in
set_option maxHeartbeats 1000000 in
theorem gq_X12_cameOf_5 {a0 : Nat} {arr : Nat → Nat} {r : Int32} {w' : MS} {Q : Int32 → St → Prop} (hq : ∀ (s : St) (x : Int32), RF a0 arr s → gret x (absM a0 arr s) = some (r, w') → Q x s) : ∀ (f : Nat) (x1 : Int32) (x2 : Int32) (x3 : Int32) (x4 : Int32) (σ : St), RF a0 arr σ → g_X12_cameOf_5 f x1 x2 x3 x4 (absM a0 arr σ) = some (r, w') → w_X12_cameOf_5 Q  f a0 x1 x2 x3 x4 σ := by
  intro f
  induction f with
  | zero => intro x1 x2 x3 x4 σ hR hp; cases hp
  | succ f ih =>
    intro x1 x2 x3 x4 σ hR hp
    unfold g_X12_cameOf_5 at hp
    unfold w_X12_cameOf_5
    replace hp := grd_some hp
    refine ⟨fun c => ?_, fun c => ?_⟩
    · replace hp := gif_t hp c
      exact hq _ _ hR hp
    · replace hp := gif_f hp c
      intro o52 ho52
      rw [hR.ref 16 (by decide)] at ho52
      subst ho52
      refine ⟨arr 16, rfl, ?_⟩
      obtain ⟨hv, hp⟩ := gix_some hp
      refine ⟨by rw [hR.len 16 (by first | decide | assumption)]; exact hv, ?_⟩
      intro o55 ho55
      rw [hR.ref 23 (by decide)] at ho55
      subst ho55
      refine ⟨arr 23, rfl, ?_⟩
      obtain ⟨hv, hp⟩ := gix_some hp
      refine ⟨by rw [hR.len 23 (by first | decide | assumption)]; exact hv, ?_⟩
      refine ⟨fun c => ?_, fun c => ?_⟩
      · replace hp := gif_f hp c
        exact gq_X12_cameOf_36 hq ih _ _ _ _ _ _ hR hp
      · replace hp := gif_t hp c
        exact gq_X12_cameOf_36 hq ih _ _ _ _ _ _ hR hp
set_option maxRecDepth 100000 in
set_option maxHeartbeats 1000000 in
theorem gq_X12_cameOf {a0 : Nat} {arr : Nat → Nat} {σ : St} {x1 : Int32} {x2 : Int32} (hR : RF a0 arr σ) {r : Int32} {w' : MS} (hp : g_X12_cameOf x1 x2 (absM a0 arr σ) = some (r, w')) {Q : Int32 → St → Prop} (hq : ∀ (s : St), RF a0 arr s → absM a0 arr s = w' → Q r s) : w_X12_cameOf a0 x1 x2 σ Q := by
  replace hq : ∀ (s : St) (x : Int32), RF a0 arr s → gret x (absM a0 arr s) = some (r, w') → Q x s := fun s x hR e => by obtain ⟨rfl, hw⟩ := gret_some e; exact hq s hR hw
  unfold g_X12_cameOf at hp
  unfold w_X12_cameOf
  refine ⟨FU, ?_⟩
  exact gq_X12_cameOf_5 hq FU _ _ _ _ _ hR hp
set_option maxRecDepth 100000 in
set_option maxHeartbeats 1000000 in
theorem gq_X12_ends_72 {a0 : Nat} {arr : Nat → Nat} {r : Unit} {w' : MS} {Q : St → Prop} (hq : ∀ (s : St), RF a0 arr s → gret () (absM a0 arr s) = some (r, w') → Q s) : ∀ (f : Nat) (x1 : Int32) (x3 : Int32) (x4 : Int32) (x5 : Int32) (σ : St), RF a0 arr σ → g_X12_ends_72 f x1 x3 x4 x5 (absM a0 arr σ) = some (r, w') → w_X12_ends_72 Q  f a0 x1 x3 x4 x5 σ := by
  intro f
  induction f with
  | zero => intro x1 x3 x4 x5 σ hR hp; cases hp
  | succ f ih =>
    intro x1 x3 x4 x5 σ hR hp
    unfold g_X12_ends_72 at hp
    unfold w_X12_ends_72
    replace hp := grd_some hp
    intro o61 ho61
    rw [hR.ref 59 (by decide)] at ho61
    subst ho61
    refine ⟨arr 59, rfl, ?_⟩
    obtain ⟨hv, hp⟩ := gix_some hp
    refine ⟨by rw [hR.len 59 (by first | decide | assumption)]; exact hv, ?_⟩
    refine ⟨fun c => ?_, fun c => ?_⟩
    · replace hp := gif_t hp c
      intro o65 ho65
      rw [hR.ref 59 (by decide)] at ho65
      subst ho65
      refine ⟨arr 59, rfl, ?_⟩
      obtain ⟨hv, hp⟩ := gix_some hp
      refine ⟨by rw [hR.len 59 (by first | decide | assumption)]; exact hv, ?_⟩
      intro s68 hs68
      have h2 := abs_setA hR 59 (by first | decide | assumption) hs68
      replace hR := hR.setA hs68
      replace hp := gst_up hp h2
      clear h2 hs68
      exact hq _ hR hp
    · replace hp := gif_f hp c
      intro o69 ho69
      rw [hR.ref 58 (by decide)] at ho69
      subst ho69
      refine ⟨arr 58, rfl, ?_⟩
      obtain ⟨hv, hp⟩ := gix_some hp
      refine ⟨by rw [hR.len 58 (by first | decide | assumption)]; exact hv, ?_⟩
      intro x72 hx72
      obtain ⟨yx72, ex72, hp⟩ := gbo_some hp
      obtain rfl : yx72 = x72 := ex72.trans hx72.symm
      refine ⟨fun c => ?_, fun c => ?_⟩
      · replace hp := gif_t hp c
        exact ih _ _ _ _ _ hR hp
      · replace hp := gif_f hp c
        intro o74 ho74
        rw [hR.ref 58 (by decide)] at ho74
        subst ho74
        refine ⟨arr 58, rfl, ?_⟩
        obtain ⟨hv, hp⟩ := gix_some hp
        refine ⟨by rw [hR.len 58 (by first | decide | assumption)]; exact hv, ?_⟩
        intro s77 hs77
        have h2 := abs_setA hR 58 (by first | decide | assumption) hs77
        replace hR := hR.setA hs77
        replace hp := gst_up hp h2
        clear h2 hs77
        exact ih _ _ _ _ _ hR hp
set_option maxRecDepth 100000 in
set_option maxHeartbeats 1000000 in
theorem gq_X12_ends_54 {a0 : Nat} {arr : Nat → Nat} {r : Unit} {w' : MS} {Q : St → Prop} (hq : ∀ (s : St), RF a0 arr s → gret () (absM a0 arr s) = some (r, w') → Q s) {K17 : Nat → Int32 → Int32 → Int32 → St → Prop} {LK17 : Int32 → Int32 → Int32 → GM (Unit)} (hK17 : ∀ (y1 : Int32) (y2 : Int32) (y3 : Int32) (y4 : St), RF a0 arr y4 → LK17 y1 y2 y3 (absM a0 arr y4) = some (r, w') → K17 a0 y1 y2 y3 y4) : ∀ (x1 : Int32) (x3 : Int32) (x4 : Int32) (os0 : Nat) (xs1 : Int32) (xs2 : Int32) (σ : St), RF a0 arr σ → g_X12_ends_54 LK17 x1 x3 x4 os0 xs1 xs2 (absM a0 arr σ) = some (r, w') → w_X12_ends_54 Q K17 a0 x1 x3 x4 (some (arr os0)) xs1 xs2 σ := by
  intro x1 x3 x4 os0 xs1 xs2 σ hR hp
  unfold g_X12_ends_54 at hp
  unfold w_X12_ends_54
  obtain ⟨hAos0, hp⟩ := gmd_some hp
  refine ⟨arr os0, rfl, ?_⟩
  obtain ⟨hv, hp⟩ := gix_some hp
  refine ⟨by rw [hR.len os0 (by first | decide | assumption)]; exact hv, ?_⟩
  intro s89 hs89
  have h2 := abs_setA hR os0 (by first | decide | assumption) hs89
  replace hR := hR.setA hs89
  replace hp := gst_up hp h2
  clear h2 hs89
  exact hK17 _ _ _ _ hR hp
set_option maxRecDepth 100000 in
set_option maxHeartbeats 1000000 in
theorem gq_X12_ends_17 {a0 : Nat} {arr : Nat → Nat} {r : Unit} {w' : MS} {Q : St → Prop} (hq : ∀ (s : St), RF a0 arr s → gret () (absM a0 arr s) = some (r, w') → Q s) : ∀ (f : Nat) (x1 : Int32) (x3 : Int32) (x4 : Int32) (σ : St), RF a0 arr σ → g_X12_ends_17 f x1 x3 x4 (absM a0 arr σ) = some (r, w') → w_X12_ends_17 Q  f a0 x1 x3 x4 σ := by
  intro f
  induction f with
  | zero => intro x1 x3 x4 σ hR hp; cases hp
  | succ f ih =>
    intro x1 x3 x4 σ hR hp
    unfold g_X12_ends_17 at hp
    unfold w_X12_ends_17
    replace hp := grd_some hp
    refine ⟨fun c => ?_, fun c => ?_⟩
    · replace hp := gif_t hp c
      refine ⟨fun c => ?_, fun c => ?_⟩
      · replace hp := gif_t hp c
        exact hq _ hR hp
      · replace hp := gif_f hp c
        refine ⟨FU, ?_⟩
        exact gq_X12_ends_72 hq FU _ _ _ _ _ hR hp
    · replace hp := gif_f hp c
      intro o79 ho79
      rw [hR.ref 43 (by decide)] at ho79
      subst ho79
      intro o80 ho80
      rw [hR.ref 44 (by decide)] at ho80
      subst ho80
      refine ⟨arr 44, rfl, ?_⟩
      obtain ⟨hv, hp⟩ := gix_some hp
      refine ⟨by rw [hR.len 44 (by first | decide | assumption)]; exact hv, ?_⟩
      refine ⟨fun c => ?_, fun c => ?_⟩
      · replace hp := gif_f hp c
        intro o84 ho84
        rw [hR.ref 43 (by decide)] at ho84
        subst ho84
        refine ⟨arr 43, rfl, ?_⟩
        obtain ⟨hv, hp⟩ := gix_some hp
        refine ⟨by rw [hR.len 43 (by first | decide | assumption)]; exact hv, ?_⟩
        exact gq_X12_ends_54 hq ih _ _ _ _ _ _ _ hR hp
      · replace hp := gif_t hp c
        exact gq_X12_ends_54 hq ih _ _ _ _ _ _ _ hR hp
set_option maxRecDepth 100000 in
set_option maxHeartbeats 1000000 in
theorem gq_X12_ends {a0 : Nat} {arr : Nat → Nat} {σ : St} {x1 : Int32} {x2 : Int32} (hR : RF a0 arr σ) {r : Unit} {w' : MS} (hp : g_X12_ends x1 x2 (absM a0 arr σ) = some (r, w')) {Q : St → Prop} (hq : ∀ (s : St), RF a0 arr s → absM a0 arr s = w' → Q s) : w_X12_ends a0 x1 x2 σ Q := by
  replace hq : ∀ (s : St), RF a0 arr s → gret () (absM a0 arr s) = some (r, w') → Q s := fun s hR e => by obtain ⟨rfl, hw⟩ := gret_some e; exact hq s hR hw
  unfold g_X12_ends at hp
  unfold w_X12_ends
  replace hp := grd_some hp
  intro o51 ho51
  rw [hR.ref 53 (by decide)] at ho51
  subst ho51
  refine ⟨arr 53, rfl, ?_⟩
  obtain ⟨hv, hp⟩ := gix_some hp
  refine ⟨by rw [hR.len 53 (by first | decide | assumption)]; exact hv, ?_⟩
  intro x54 hx54
  obtain ⟨yx54, ex54, hp⟩ := gbo_some hp
  obtain rfl : yx54 = x54 := ex54.trans hx54.symm
  intro o55 ho55
  rw [hR.ref 52 (by decide)] at ho55
  subst ho55
  refine ⟨arr 52, rfl, ?_⟩
  obtain ⟨hv, hp⟩ := gix_some hp
  refine ⟨by rw [hR.len 52 (by first | decide | assumption)]; exact hv, ?_⟩
  intro s58 hs58
  have h2 := abs_setA hR 52 (by first | decide | assumption) hs58
  replace hR := hR.setA hs58
  replace hp := gst_up hp h2
  clear h2 hs58
  refine ⟨FU, ?_⟩
  exact gq_X12_ends_17 hq FU _ _ _ _ hR hp
set_option maxRecDepth 100000 in
set_option maxHeartbeats 1000000 in
theorem gq_X12_fitsInto_78 {a0 : Nat} {arr : Nat → Nat} {r : Int32} {w' : MS} {Q : Int32 → St → Prop} (hq : ∀ (s : St) (x : Int32), RF a0 arr s → gret x (absM a0 arr s) = some (r, w') → Q x s) {K45 : Nat → Int32 → Int32 → Int32 → Int32 → St → Prop} {LK45 : Int32 → Int32 → Int32 → Int32 → GM (Int32)} (hK45 : ∀ (y1 : Int32) (y2 : Int32) (y3 : Int32) (y4 : Int32) (y5 : St), RF a0 arr y5 → LK45 y1 y2 y3 y4 (absM a0 arr y5) = some (r, w') → K45 a0 y1 y2 y3 y4 y5) : ∀ (x1 : Int32) (x2 : Int32) (x3 : Int32) (x4 : Int32) (xs0 : Int32) (σ : St), RF a0 arr σ → g_X12_fitsInto_78 LK45 x1 x2 x3 x4 xs0 (absM a0 arr σ) = some (r, w') → w_X12_fitsInto_78 Q K45 a0 x1 x2 x3 x4 xs0 σ := by
  intro x1 x2 x3 x4 xs0 σ hR hp
  unfold g_X12_fitsInto_78 at hp
  unfold w_X12_fitsInto_78
  replace hp := grd_some hp
  refine ⟨fun c => ?_, fun c => ?_⟩
  · replace hp := gif_t hp c
    exact hK45 _ _ _ _ _ hR hp
  · replace hp := gif_f hp c
    refine ⟨fun c => ?_, fun c => ?_⟩
    · replace hp := gif_t hp c
      exact hK45 _ _ _ _ _ hR hp
    · replace hp := gif_f hp c
      intro o65 ho65
      rw [hR.ref 14 (by decide)] at ho65
      subst ho65
      intro o66 ho66
      rw [hR.ref 12 (by decide)] at ho66
      subst ho66
      refine ⟨arr 12, rfl, ?_⟩
      obtain ⟨hv, hp⟩ := gix_some hp
      refine ⟨by rw [hR.len 12 (by first | decide | assumption)]; exact hv, ?_⟩
      intro o69 ho69
      rw [hR.ref 12 (by decide)] at ho69
      subst ho69
      refine ⟨arr 12, rfl, ?_⟩
      obtain ⟨hv, hp⟩ := gix_some hp
      refine ⟨by rw [hR.len 12 (by first | decide | assumption)]; exact hv, ?_⟩
      refine ⟨arr 14, rfl, ?_⟩
      obtain ⟨hv, hp⟩ := gix_some hp
      refine ⟨by rw [hR.len 14 (by first | decide | assumption)]; exact hv, ?_⟩
      refine ⟨fun c => ?_, fun c => ?_⟩
      · replace hp := gif_f hp c
        exact hK45 _ _ _ _ _ hR hp
      · replace hp := gif_t hp c
        exact hK45 _ _ _ _ _ hR hp
set_option maxRecDepth 100000 in
set_option maxHeartbeats 1000000 in
theorem gq_X12_fitsInto_77 {a0 : Nat} {arr : Nat → Nat} {r : Int32} {w' : MS} {Q : Int32 → St → Prop} (hq : ∀ (s : St) (x : Int32), RF a0 arr s → gret x (absM a0 arr s) = some (r, w') → Q x s) {K45 : Nat → Int32 → Int32 → Int32 → Int32 → St → Prop} {LK45 : Int32 → Int32 → Int32 → Int32 → GM (Int32)} (hK45 : ∀ (y1 : Int32) (y2 : Int32) (y3 : Int32) (y4 : Int32) (y5 : St), RF a0 arr y5 → LK45 y1 y2 y3 y4 (absM a0 arr y5) = some (r, w') → K45 a0 y1 y2 y3 y4 y5) : ∀ (x1 : Int32) (x2 : Int32) (x3 : Int32) (x4 : Int32) (σ : St), RF a0 arr σ → g_X12_fitsInto_77 LK45 x1 x2 x3 x4 (absM a0 arr σ) = some (r, w') → w_X12_fitsInto_77 Q K45 a0 x1 x2 x3 x4 σ := by
  intro x1 x2 x3 x4 σ hR hp
  unfold g_X12_fitsInto_77 at hp
  unfold w_X12_fitsInto_77
  exact gq_X12_fitsInto_78 hq hK45 _ _ _ _ _ _ hR hp
set_option maxRecDepth 100000 in
set_option maxHeartbeats 1000000 in
theorem gq_X12_fitsInto_45 {a0 : Nat} {arr : Nat → Nat} {r : Int32} {w' : MS} {Q : Int32 → St → Prop} (hq : ∀ (s : St) (x : Int32), RF a0 arr s → gret x (absM a0 arr s) = some (r, w') → Q x s) : ∀ (f : Nat) (x1 : Int32) (x2 : Int32) (x3 : Int32) (x4 : Int32) (σ : St), RF a0 arr σ → g_X12_fitsInto_45 f x1 x2 x3 x4 (absM a0 arr σ) = some (r, w') → w_X12_fitsInto_45 Q  f a0 x1 x2 x3 x4 σ := by
  intro f
  induction f with
  | zero => intro x1 x2 x3 x4 σ hR hp; cases hp
  | succ f ih =>
    intro x1 x2 x3 x4 σ hR hp
    unfold g_X12_fitsInto_45 at hp
    unfold w_X12_fitsInto_45
    replace hp := grd_some hp
    refine ⟨fun c => ?_, fun c => ?_⟩
    · replace hp := gif_t hp c
      obtain ⟨hv, hp⟩ := gmd_some hp
      refine ⟨of_decide_eq_true hv, ?_⟩
      exact hq _ _ hR hp
    · replace hp := gif_f hp c
      intro o59 ho59
      rw [hR.ref 64 (by decide)] at ho59
      subst ho59
      refine ⟨arr 64, rfl, ?_⟩
      obtain ⟨hv, hp⟩ := gix_some hp
      refine ⟨by rw [hR.len 64 (by first | decide | assumption)]; exact hv, ?_⟩
      refine ⟨fun c => ?_, fun c => ?_⟩
      · replace hp := gif_f hp c
        exact gq_X12_fitsInto_77 hq ih _ _ _ _ _ hR hp
      · replace hp := gif_t hp c
        refine ⟨fun c => ?_, fun c => ?_⟩
        · replace hp := gif_t hp c
          exact gq_X12_fitsInto_77 hq ih _ _ _ _ _ hR hp
        · replace hp := gif_f hp c
          exact gq_X12_fitsInto_78 hq ih _ _ _ _ _ _ hR hp
set_option maxRecDepth 100000 in
set_option maxHeartbeats 1000000 in
theorem gq_X12_fitsInto {a0 : Nat} {arr : Nat → Nat} {σ : St} {x1 : Int32} {x2 : Int32} (hR : RF a0 arr σ) {r : Int32} {w' : MS} (hp : g_X12_fitsInto x1 x2 (absM a0 arr σ) = some (r, w')) {Q : Int32 → St → Prop} (hq : ∀ (s : St), RF a0 arr s → absM a0 arr s = w' → Q r s) : w_X12_fitsInto a0 x1 x2 σ Q := by
  replace hq : ∀ (s : St) (x : Int32), RF a0 arr s → gret x (absM a0 arr s) = some (r, w') → Q x s := fun s x hR e => by obtain ⟨rfl, hw⟩ := gret_some e; exact hq s hR hw
  unfold g_X12_fitsInto at hp
  unfold w_X12_fitsInto
  replace hp := grd_some hp
  intro o51 ho51
  rw [hR.ref 61 (by decide)] at ho51
  subst ho51
  refine ⟨arr 61, rfl, ?_⟩
  obtain ⟨hv, hp⟩ := gix_some hp
  refine ⟨by rw [hR.len 61 (by first | decide | assumption)]; exact hv, ?_⟩
  intro o54 ho54
  rw [hR.ref 10 (by decide)] at ho54
  subst ho54
  refine ⟨arr 10, rfl, ?_⟩
  obtain ⟨hv, hp⟩ := gix_some hp
  refine ⟨by rw [hR.len 10 (by first | decide | assumption)]; exact hv, ?_⟩
  refine ⟨fun c => ?_, fun c => ?_⟩
  · replace hp := gif_t hp c
    refine ⟨FU, ?_⟩
    exact gq_X12_fitsInto_45 hq FU _ _ _ _ _ hR hp
  · replace hp := gif_f hp c
    intro o77 ho77
    rw [hR.ref 62 (by decide)] at ho77
    subst ho77
    refine ⟨arr 62, rfl, ?_⟩
    obtain ⟨hv, hp⟩ := gix_some hp
    refine ⟨by rw [hR.len 62 (by first | decide | assumption)]; exact hv, ?_⟩
    intro o80 ho80
    rw [hR.ref 11 (by decide)] at ho80
    subst ho80
    refine ⟨arr 11, rfl, ?_⟩
    obtain ⟨hv, hp⟩ := gix_some hp
    refine ⟨by rw [hR.len 11 (by first | decide | assumption)]; exact hv, ?_⟩
    refine ⟨fun c => ?_, fun c => ?_⟩
    · replace hp := gif_t hp c
      refine ⟨FU, ?_⟩
      exact gq_X12_fitsInto_45 hq FU _ _ _ _ _ hR hp
    · replace hp := gif_f hp c
      refine ⟨FU, ?_⟩
      exact gq_X12_fitsInto_45 hq FU _ _ _ _ _ hR hp
set_option maxRecDepth 100000 in
set_option maxHeartbeats 1000000 in
theorem gq_X12_gives {a0 : Nat} {arr : Nat → Nat} {σ : St} {x1 : Int32} {x2 : Int32} (hR : RF a0 arr σ) {r : Unit} {w' : MS} (hp : g_X12_gives x1 x2 (absM a0 arr σ) = some (r, w')) {Q : St → Prop} (hq : ∀ (s : St), RF a0 arr s → absM a0 arr s = w' → Q s) : w_X12_gives a0 x1 x2 σ Q := by
  replace hq : ∀ (s : St), RF a0 arr s → gret () (absM a0 arr s) = some (r, w') → Q s := fun s hR e => by obtain ⟨rfl, hw⟩ := gret_some e; exact hq s hR hw
  unfold g_X12_gives at hp
  unfold w_X12_gives
  replace hp := grd_some hp
  intro o51 ho51
  rw [hR.ref 58 (by decide)] at ho51
  subst ho51
  intro o52 ho52
  rw [hR.ref 59 (by decide)] at ho52
  subst ho52
  refine ⟨arr 59, rfl, ?_⟩
  obtain ⟨hv, hp⟩ := gix_some hp
  refine ⟨by rw [hR.len 59 (by first | decide | assumption)]; exact hv, ?_⟩
  refine ⟨arr 58, rfl, ?_⟩
  obtain ⟨hv, hp⟩ := gix_some hp
  refine ⟨by rw [hR.len 58 (by first | decide | assumption)]; exact hv, ?_⟩
  intro s57 hs57
  have h2 := abs_setA hR 58 (by first | decide | assumption) hs57
  replace hR := hR.setA hs57
  replace hp := gst_up hp h2
  clear h2 hs57
  replace hp := grd_some hp
  intro o58 ho58
  rw [hR.ref 59 (by decide)] at ho58
  subst ho58
  refine ⟨arr 59, rfl, ?_⟩
  obtain ⟨hv, hp⟩ := gix_some hp
  refine ⟨by rw [hR.len 59 (by first | decide | assumption)]; exact hv, ?_⟩
  obtain ⟨hv, hp⟩ := gix_some hp
  refine ⟨by rw [hR.len 59 (by first | decide | assumption)]; exact hv, ?_⟩
  intro s62 hs62
  have h2 := abs_setA hR 59 (by first | decide | assumption) hs62
  replace hR := hR.setA hs62
  replace hp := gst_up hp h2
  clear h2 hs62
  intro o63 ho63
  rw [hR.ref 52 (by decide)] at ho63
  subst ho63
  refine ⟨arr 52, rfl, ?_⟩
  obtain ⟨hv, hp⟩ := gix_some hp
  refine ⟨by rw [hR.len 52 (by first | decide | assumption)]; exact hv, ?_⟩
  intro s66 hs66
  have h2 := abs_setA hR 52 (by first | decide | assumption) hs66
  replace hR := hR.setA hs66
  replace hp := gst_up hp h2
  clear h2 hs66
  intro o67 ho67
  rw [hR.ref 53 (by decide)] at ho67
  subst ho67
  refine ⟨arr 53, rfl, ?_⟩
  obtain ⟨hv, hp⟩ := gix_some hp
  refine ⟨by rw [hR.len 53 (by first | decide | assumption)]; exact hv, ?_⟩
  intro s70 hs70
  have h2 := abs_setA hR 53 (by first | decide | assumption) hs70
  replace hR := hR.setA hs70
  replace hp := gst_up hp h2
  clear h2 hs70
  exact hq _ hR hp
set_option maxRecDepth 100000 in
set_option maxHeartbeats 1000000 in
theorem gq_X12_holds {a0 : Nat} {arr : Nat → Nat} {σ : St} {x1 : Int32} (hR : RF a0 arr σ) {r : Int32} {w' : MS} (hp : g_X12_holds x1 (absM a0 arr σ) = some (r, w')) {Q : Int32 → St → Prop} (hq : ∀ (s : St), RF a0 arr s → absM a0 arr s = w' → Q r s) : w_X12_holds a0 x1 σ Q := by
  replace hq : ∀ (s : St) (x : Int32), RF a0 arr s → gret x (absM a0 arr s) = some (r, w') → Q x s := fun s x hR e => by obtain ⟨rfl, hw⟩ := gret_some e; exact hq s hR hw
  unfold g_X12_holds at hp
  unfold w_X12_holds
  intro s51 hs51
  have h2 := abs_setI (arr := arr) 0 (by decide) hs51
  replace hR := hR.setI hs51
  replace hp := gst_up hp h2
  clear h2 hs51
  refine ⟨fun c => ?_, fun c => ?_⟩
  · replace hp := gif_f hp c
    exact hq _ _ hR hp
  · replace hp := gif_t hp c
    exact hq _ _ hR hp
set_option maxRecDepth 100000 in
set_option maxHeartbeats 1000000 in
theorem gq_X12_isFor {a0 : Nat} {arr : Nat → Nat} {σ : St} {x1 : Int32} {x2 : Int32} (hR : RF a0 arr σ) {r : Int32} {w' : MS} (hp : g_X12_isFor x1 x2 (absM a0 arr σ) = some (r, w')) {Q : Int32 → St → Prop} (hq : ∀ (s : St), RF a0 arr s → absM a0 arr s = w' → Q r s) : w_X12_isFor a0 x1 x2 σ Q := by
  replace hq : ∀ (s : St) (x : Int32), RF a0 arr s → gret x (absM a0 arr s) = some (r, w') → Q x s := fun s x hR e => by obtain ⟨rfl, hw⟩ := gret_some e; exact hq s hR hw
  unfold g_X12_isFor at hp
  unfold w_X12_isFor
  replace hp := grd_some hp
  intro o51 ho51
  rw [hR.ref 44 (by decide)] at ho51
  subst ho51
  refine ⟨arr 44, rfl, ?_⟩
  obtain ⟨hv, hp⟩ := gix_some hp
  refine ⟨by rw [hR.len 44 (by first | decide | assumption)]; exact hv, ?_⟩
  refine ⟨fun c => ?_, fun c => ?_⟩
  · replace hp := gif_f hp c
    exact hq _ _ hR hp
  · replace hp := gif_t hp c
    intro o55 ho55
    rw [hR.ref 40 (by decide)] at ho55
    subst ho55
    refine ⟨arr 40, rfl, ?_⟩
    obtain ⟨hv, hp⟩ := gix_some hp
    refine ⟨by rw [hR.len 40 (by first | decide | assumption)]; exact hv, ?_⟩
    refine ⟨fun c => ?_, fun c => ?_⟩
    · replace hp := gif_f hp c
      exact hq _ _ hR hp
    · replace hp := gif_t hp c
      exact hq _ _ hR hp
set_option maxRecDepth 100000 in
set_option maxHeartbeats 1000000 in
theorem gq_X12_isHeldByOther_5 {a0 : Nat} {arr : Nat → Nat} {r : Int32} {w' : MS} {Q : Int32 → St → Prop} (hq : ∀ (s : St) (x : Int32), RF a0 arr s → gret x (absM a0 arr s) = some (r, w') → Q x s) : ∀ (f : Nat) (x1 : Int32) (x2 : Int32) (x3 : Int32) (x4 : Int32) (σ : St), RF a0 arr σ → g_X12_isHeldByOther_5 f x1 x2 x3 x4 (absM a0 arr σ) = some (r, w') → w_X12_isHeldByOther_5 Q  f a0 x1 x2 x3 x4 σ := by
  intro f
  induction f with
  | zero => intro x1 x2 x3 x4 σ hR hp; cases hp
  | succ f ih =>
    intro x1 x2 x3 x4 σ hR hp
    unfold g_X12_isHeldByOther_5 at hp
    unfold w_X12_isHeldByOther_5
    replace hp := grd_some hp
    refine ⟨fun c => ?_, fun c => ?_⟩
    · replace hp := gif_t hp c
      obtain ⟨hv, hp⟩ := gmd_some hp
      refine ⟨of_decide_eq_true hv, ?_⟩
      exact hq _ _ hR hp
    · replace hp := gif_f hp c
      refine ⟨fun c => ?_, fun c => ?_⟩
      · replace hp := gif_f hp c
        exact ih _ _ _ _ _ hR hp
      · replace hp := gif_t hp c
        refine ⟨fun c => ?_, fun c => ?_⟩
        · replace hp := gif_t hp c
          exact ih _ _ _ _ _ hR hp
        · replace hp := gif_f hp c
          intro o54 ho54
          rw [hR.ref 55 (by decide)] at ho54
          subst ho54
          refine ⟨arr 55, rfl, ?_⟩
          obtain ⟨hv, hp⟩ := gix_some hp
          refine ⟨by rw [hR.len 55 (by first | decide | assumption)]; exact hv, ?_⟩
          refine ⟨fun c => ?_, fun c => ?_⟩
          · replace hp := gif_f hp c
            exact ih _ _ _ _ _ hR hp
          · replace hp := gif_t hp c
            exact ih _ _ _ _ _ hR hp
set_option maxRecDepth 100000 in
set_option maxHeartbeats 1000000 in
theorem gq_X12_isHeldByOther {a0 : Nat} {arr : Nat → Nat} {σ : St} {x1 : Int32} {x2 : Int32} (hR : RF a0 arr σ) {r : Int32} {w' : MS} (hp : g_X12_isHeldByOther x1 x2 (absM a0 arr σ) = some (r, w')) {Q : Int32 → St → Prop} (hq : ∀ (s : St), RF a0 arr s → absM a0 arr s = w' → Q r s) : w_X12_isHeldByOther a0 x1 x2 σ Q := by
  replace hq : ∀ (s : St) (x : Int32), RF a0 arr s → gret x (absM a0 arr s) = some (r, w') → Q x s := fun s x hR e => by obtain ⟨rfl, hw⟩ := gret_some e; exact hq s hR hw
  unfold g_X12_isHeldByOther at hp
  unfold w_X12_isHeldByOther
  refine ⟨FU, ?_⟩
  exact gq_X12_isHeldByOther_5 hq FU _ _ _ _ _ hR hp
set_option maxRecDepth 100000 in
set_option maxHeartbeats 1000000 in
theorem gq_X12_isIn {a0 : Nat} {arr : Nat → Nat} {σ : St} {x0 : Int32} {x1 : Int32} {x2 : Int32} (hR : RF a0 arr σ) {r : Int32} {w' : MS} (hp : g_X12_isIn x0 x1 x2 (absM a0 arr σ) = some (r, w')) {Q : Int32 → St → Prop} (hq : ∀ (s : St), RF a0 arr s → absM a0 arr s = w' → Q r s) : w_X12_isIn x0 x1 x2 σ Q := by
  replace hq : ∀ (s : St) (x : Int32), RF a0 arr s → gret x (absM a0 arr s) = some (r, w') → Q x s := fun s x hR e => by obtain ⟨rfl, hw⟩ := gret_some e; exact hq s hR hw
  unfold g_X12_isIn at hp
  unfold w_X12_isIn
  refine ⟨fun c => ?_, fun c => ?_⟩
  · replace hp := gif_t hp c
    exact hq _ _ hR hp
  · replace hp := gif_f hp c
    refine ⟨fun c => ?_, fun c => ?_⟩
    · replace hp := gif_t hp c
      exact hq _ _ hR hp
    · replace hp := gif_f hp c
      exact hq _ _ hR hp
set_option maxRecDepth 100000 in
set_option maxHeartbeats 1000000 in
theorem gq_X12_isOn {a0 : Nat} {arr : Nat → Nat} {σ : St} {x1 : Int32} (hR : RF a0 arr σ) {r : Int32} {w' : MS} (hp : g_X12_isOn x1 (absM a0 arr σ) = some (r, w')) {Q : Int32 → St → Prop} (hq : ∀ (s : St), RF a0 arr s → absM a0 arr s = w' → Q r s) : w_X12_isOn a0 x1 σ Q := by
  replace hq : ∀ (s : St) (x : Int32), RF a0 arr s → gret x (absM a0 arr s) = some (r, w') → Q x s := fun s x hR e => by obtain ⟨rfl, hw⟩ := gret_some e; exact hq s hR hw
  unfold g_X12_isOn at hp
  unfold w_X12_isOn
  replace hp := grd_some hp
  intro o51 ho51
  rw [hR.ref 52 (by decide)] at ho51
  subst ho51
  refine ⟨arr 52, rfl, ?_⟩
  obtain ⟨hv, hp⟩ := gix_some hp
  refine ⟨by rw [hR.len 52 (by first | decide | assumption)]; exact hv, ?_⟩
  refine ⟨fun c => ?_, fun c => ?_⟩
  · replace hp := gif_t hp c
    exact hq _ _ hR hp
  · replace hp := gif_f hp c
    intro o55 ho55
    rw [hR.ref 52 (by decide)] at ho55
    subst ho55
    refine ⟨arr 52, rfl, ?_⟩
    obtain ⟨hv, hp⟩ := gix_some hp
    refine ⟨by rw [hR.len 52 (by first | decide | assumption)]; exact hv, ?_⟩
    refine ⟨fun c => ?_, fun c => ?_⟩
    · replace hp := gif_f hp c
      exact hq _ _ hR hp
    · replace hp := gif_t hp c
      exact hq _ _ hR hp
set_option maxRecDepth 100000 in
set_option maxHeartbeats 1000000 in
theorem gq_X12_itemIn_5 {a0 : Nat} {arr : Nat → Nat} {r : Int32} {w' : MS} {Q : Int32 → St → Prop} (hq : ∀ (s : St) (x : Int32), RF a0 arr s → gret x (absM a0 arr s) = some (r, w') → Q x s) : ∀ (f : Nat) (x1 : Int32) (x2 : Int32) (x3 : Int32) (x4 : Int32) (σ : St), RF a0 arr σ → g_X12_itemIn_5 f x1 x2 x3 x4 (absM a0 arr σ) = some (r, w') → w_X12_itemIn_5 Q  f a0 x1 x2 x3 x4 σ := by
  intro f
  induction f with
  | zero => intro x1 x2 x3 x4 σ hR hp; cases hp
  | succ f ih =>
    intro x1 x2 x3 x4 σ hR hp
    unfold g_X12_itemIn_5 at hp
    unfold w_X12_itemIn_5
    replace hp := grd_some hp
    refine ⟨fun c => ?_, fun c => ?_⟩
    · replace hp := gif_t hp c
      exact hq _ _ hR hp
    · replace hp := gif_f hp c
      intro o52 ho52
      rw [hR.ref 16 (by decide)] at ho52
      subst ho52
      refine ⟨arr 16, rfl, ?_⟩
      obtain ⟨hv, hp⟩ := gix_some hp
      refine ⟨by rw [hR.len 16 (by first | decide | assumption)]; exact hv, ?_⟩
      refine ⟨fun c => ?_, fun c => ?_⟩
      · replace hp := gif_f hp c
        intro x56 hx56
        obtain ⟨yx56, ex56, hp⟩ := gbo_some hp
        obtain rfl : yx56 = x56 := ex56.trans hx56.symm
        exact ih _ _ _ _ _ hR hp
      · replace hp := gif_t hp c
        intro o57 ho57
        rw [hR.ref 19 (by decide)] at ho57
        subst ho57
        refine ⟨arr 19, rfl, ?_⟩
        obtain ⟨hv, hp⟩ := gix_some hp
        refine ⟨by rw [hR.len 19 (by first | decide | assumption)]; exact hv, ?_⟩
        intro x60 hx60
        obtain ⟨yx60, ex60, hp⟩ := gbo_some hp
        obtain rfl : yx60 = x60 := ex60.trans hx60.symm
        exact ih _ _ _ _ _ hR hp
set_option maxRecDepth 100000 in
set_option maxHeartbeats 1000000 in
theorem gq_X12_itemIn {a0 : Nat} {arr : Nat → Nat} {σ : St} {x1 : Int32} {x2 : Int32} (hR : RF a0 arr σ) {r : Int32} {w' : MS} (hp : g_X12_itemIn x1 x2 (absM a0 arr σ) = some (r, w')) {Q : Int32 → St → Prop} (hq : ∀ (s : St), RF a0 arr s → absM a0 arr s = w' → Q r s) : w_X12_itemIn a0 x1 x2 σ Q := by
  replace hq : ∀ (s : St) (x : Int32), RF a0 arr s → gret x (absM a0 arr s) = some (r, w') → Q x s := fun s x hR e => by obtain ⟨rfl, hw⟩ := gret_some e; exact hq s hR hw
  unfold g_X12_itemIn at hp
  unfold w_X12_itemIn
  refine ⟨FU, ?_⟩
  exact gq_X12_itemIn_5 hq FU _ _ _ _ _ hR hp
set_option maxRecDepth 100000 in
set_option maxHeartbeats 1000000 in
theorem gq_X12_lacking_16 {a0 : Nat} {arr : Nat → Nat} {r : Int32} {w' : MS} {Q : Int32 → St → Prop} (hq : ∀ (s : St) (x : Int32), RF a0 arr s → gret x (absM a0 arr s) = some (r, w') → Q x s) : ∀ (f : Nat) (x1 : Int32) (x2 : Int32) (x3 : Int32) (σ : St), RF a0 arr σ → g_X12_lacking_16 f x1 x2 x3 (absM a0 arr σ) = some (r, w') → w_X12_lacking_16 Q  f a0 x1 x2 x3 σ := by
  intro f
  induction f with
  | zero => intro x1 x2 x3 σ hR hp; cases hp
  | succ f ih =>
    intro x1 x2 x3 σ hR hp
    unfold g_X12_lacking_16 at hp
    unfold w_X12_lacking_16
    replace hp := grd_some hp
    refine ⟨fun c => ?_, fun c => ?_⟩
    · replace hp := gif_t hp c
      exact hq _ _ hR hp
    · replace hp := gif_f hp c
      intro o59 ho59
      rw [hR.ref 40 (by decide)] at ho59
      subst ho59
      refine ⟨arr 40, rfl, ?_⟩
      obtain ⟨hv, hp⟩ := gix_some hp
      refine ⟨by rw [hR.len 40 (by first | decide | assumption)]; exact hv, ?_⟩
      refine ⟨fun c => ?_, fun c => ?_⟩
      · replace hp := gif_f hp c
        intro x63 hx63
        obtain ⟨yx63, ex63, hp⟩ := gbo_some hp
        obtain rfl : yx63 = x63 := ex63.trans hx63.symm
        exact ih _ _ _ _ hR hp
      · replace hp := gif_t hp c
        intro o64 ho64
        rw [hR.ref 43 (by decide)] at ho64
        subst ho64
        refine ⟨arr 43, rfl, ?_⟩
        obtain ⟨hv, hp⟩ := gix_some hp
        refine ⟨by rw [hR.len 43 (by first | decide | assumption)]; exact hv, ?_⟩
        intro x67 hx67
        obtain ⟨yx67, ex67, hp⟩ := gbo_some hp
        obtain rfl : yx67 = x67 := ex67.trans hx67.symm
        exact ih _ _ _ _ hR hp
set_option maxRecDepth 100000 in
set_option maxHeartbeats 1000000 in
theorem gq_X12_lacking {a0 : Nat} {arr : Nat → Nat} {σ : St} {x1 : Int32} (hR : RF a0 arr σ) {r : Int32} {w' : MS} (hp : g_X12_lacking x1 (absM a0 arr σ) = some (r, w')) {Q : Int32 → St → Prop} (hq : ∀ (s : St), RF a0 arr s → absM a0 arr s = w' → Q r s) : w_X12_lacking a0 x1 σ Q := by
  replace hq : ∀ (s : St) (x : Int32), RF a0 arr s → gret x (absM a0 arr s) = some (r, w') → Q x s := fun s x hR e => by obtain ⟨rfl, hw⟩ := gret_some e; exact hq s hR hw
  unfold g_X12_lacking at hp
  unfold w_X12_lacking
  replace hp := grd_some hp
  intro o51 ho51
  rw [hR.ref 37 (by decide)] at ho51
  subst ho51
  refine ⟨arr 37, rfl, ?_⟩
  obtain ⟨hv, hp⟩ := gix_some hp
  refine ⟨by rw [hR.len 37 (by first | decide | assumption)]; exact hv, ?_⟩
  intro o54 ho54
  rw [hR.ref 38 (by decide)] at ho54
  subst ho54
  refine ⟨arr 38, rfl, ?_⟩
  obtain ⟨hv, hp⟩ := gix_some hp
  refine ⟨by rw [hR.len 38 (by first | decide | assumption)]; exact hv, ?_⟩
  intro x57 hx57
  obtain ⟨yx57, ex57, hp⟩ := gbo_some hp
  obtain rfl : yx57 = x57 := ex57.trans hx57.symm
  refine ⟨FU, ?_⟩
  exact gq_X12_lacking_16 hq FU _ _ _ _ hR hp
set_option maxRecDepth 100000 in
set_option maxHeartbeats 1000000 in
theorem gq_X12_less {a0 : Nat} {arr : Nat → Nat} {σ : St} {x0 : Int32} {x1 : Int32} (hR : RF a0 arr σ) {r : Int32} {w' : MS} (hp : g_X12_less x0 x1 (absM a0 arr σ) = some (r, w')) {Q : Int32 → St → Prop} (hq : ∀ (s : St), RF a0 arr s → absM a0 arr s = w' → Q r s) : w_X12_less x0 x1 σ Q := by
  replace hq : ∀ (s : St) (x : Int32), RF a0 arr s → gret x (absM a0 arr s) = some (r, w') → Q x s := fun s x hR e => by obtain ⟨rfl, hw⟩ := gret_some e; exact hq s hR hw
  unfold g_X12_less at hp
  unfold w_X12_less
  refine ⟨fun c => ?_, fun c => ?_⟩
  · replace hp := gif_t hp c
    exact hq _ _ hR hp
  · replace hp := gif_f hp c
    exact hq _ _ hR hp
set_option maxRecDepth 100000 in
set_option maxHeartbeats 1000000 in
theorem gq_X12_makes {a0 : Nat} {arr : Nat → Nat} {σ : St} {x1 : Int32} {x2 : Int32} {x3 : Int32} {x4 : Int32} {x5 : Int32} {x6 : Int32} (hR : RF a0 arr σ) {r : Int32} {w' : MS} (hp : g_X12_makes x1 x2 x3 x4 x5 x6 (absM a0 arr σ) = some (r, w')) {Q : Int32 → St → Prop} (hq : ∀ (s : St), RF a0 arr s → absM a0 arr s = w' → Q r s) : w_X12_makes a0 x1 x2 x3 x4 x5 x6 σ Q := by
  replace hq : ∀ (s : St) (x : Int32), RF a0 arr s → gret x (absM a0 arr s) = some (r, w') → Q x s := fun s x hR e => by obtain ⟨rfl, hw⟩ := gret_some e; exact hq s hR hw
  unfold g_X12_makes at hp
  unfold w_X12_makes
  replace hp := grd_some hp
  intro o51 ho51
  rw [hR.ref 46 (by decide)] at ho51
  subst ho51
  refine ⟨arr 46, rfl, ?_⟩
  obtain ⟨hv, hp⟩ := gix_some hp
  refine ⟨by rw [hR.len 46 (by first | decide | assumption)]; exact hv, ?_⟩
  intro s54 hs54
  have h2 := abs_setA hR 46 (by first | decide | assumption) hs54
  replace hR := hR.setA hs54
  replace hp := gst_up hp h2
  clear h2 hs54
  replace hp := grd_some hp
  intro o55 ho55
  rw [hR.ref 47 (by decide)] at ho55
  subst ho55
  refine ⟨arr 47, rfl, ?_⟩
  obtain ⟨hv, hp⟩ := gix_some hp
  refine ⟨by rw [hR.len 47 (by first | decide | assumption)]; exact hv, ?_⟩
  intro s58 hs58
  have h2 := abs_setA hR 47 (by first | decide | assumption) hs58
  replace hR := hR.setA hs58
  replace hp := gst_up hp h2
  clear h2 hs58
  replace hp := grd_some hp
  intro o59 ho59
  rw [hR.ref 48 (by decide)] at ho59
  subst ho59
  refine ⟨arr 48, rfl, ?_⟩
  obtain ⟨hv, hp⟩ := gix_some hp
  refine ⟨by rw [hR.len 48 (by first | decide | assumption)]; exact hv, ?_⟩
  intro s62 hs62
  have h2 := abs_setA hR 48 (by first | decide | assumption) hs62
  replace hR := hR.setA hs62
  replace hp := gst_up hp h2
  clear h2 hs62
  replace hp := grd_some hp
  intro o63 ho63
  rw [hR.ref 49 (by decide)] at ho63
  subst ho63
  refine ⟨arr 49, rfl, ?_⟩
  obtain ⟨hv, hp⟩ := gix_some hp
  refine ⟨by rw [hR.len 49 (by first | decide | assumption)]; exact hv, ?_⟩
  intro s66 hs66
  have h2 := abs_setA hR 49 (by first | decide | assumption) hs66
  replace hR := hR.setA hs66
  replace hp := gst_up hp h2
  clear h2 hs66
  replace hp := grd_some hp
  intro o67 ho67
  rw [hR.ref 50 (by decide)] at ho67
  subst ho67
  refine ⟨arr 50, rfl, ?_⟩
  obtain ⟨hv, hp⟩ := gix_some hp
  refine ⟨by rw [hR.len 50 (by first | decide | assumption)]; exact hv, ?_⟩
  intro s70 hs70
  have h2 := abs_setA hR 50 (by first | decide | assumption) hs70
  replace hR := hR.setA hs70
  replace hp := gst_up hp h2
  clear h2 hs70
  replace hp := grd_some hp
  intro o71 ho71
  rw [hR.ref 51 (by decide)] at ho71
  subst ho71
  refine ⟨arr 51, rfl, ?_⟩
  obtain ⟨hv, hp⟩ := gix_some hp
  refine ⟨by rw [hR.len 51 (by first | decide | assumption)]; exact hv, ?_⟩
  intro s74 hs74
  have h2 := abs_setA hR 51 (by first | decide | assumption) hs74
  replace hR := hR.setA hs74
  replace hp := gst_up hp h2
  clear h2 hs74
  replace hp := grd_some hp
  intro o75 ho75
  rw [hR.ref 52 (by decide)] at ho75
  subst ho75
  refine ⟨arr 52, rfl, ?_⟩
  obtain ⟨hv, hp⟩ := gix_some hp
  refine ⟨by rw [hR.len 52 (by first | decide | assumption)]; exact hv, ?_⟩
  intro s78 hs78
  have h2 := abs_setA hR 52 (by first | decide | assumption) hs78
  replace hR := hR.setA hs78
  replace hp := gst_up hp h2
  clear h2 hs78
  replace hp := grd_some hp
  intro o79 ho79
  rw [hR.ref 53 (by decide)] at ho79
  subst ho79
  refine ⟨arr 53, rfl, ?_⟩
  obtain ⟨hv, hp⟩ := gix_some hp
  refine ⟨by rw [hR.len 53 (by first | decide | assumption)]; exact hv, ?_⟩
  intro s82 hs82
  have h2 := abs_setA hR 53 (by first | decide | assumption) hs82
  replace hR := hR.setA hs82
  replace hp := gst_up hp h2
  clear h2 hs82
  replace hp := grd_some hp
  intro o83 ho83
  rw [hR.ref 54 (by decide)] at ho83
  subst ho83
  refine ⟨arr 54, rfl, ?_⟩
  obtain ⟨hv, hp⟩ := gix_some hp
  refine ⟨by rw [hR.len 54 (by first | decide | assumption)]; exact hv, ?_⟩
  intro s86 hs86
  have h2 := abs_setA hR 54 (by first | decide | assumption) hs86
  replace hR := hR.setA hs86
  replace hp := gst_up hp h2
  clear h2 hs86
  replace hp := grd_some hp
  intro s87 hs87
  have h2 := abs_setI (arr := arr) 45 (by decide) hs87
  replace hR := hR.setI hs87
  replace hp := gst_up hp h2
  clear h2 hs87
  replace hp := grd_some hp
  exact hq _ _ hR hp
set_option maxRecDepth 100000 in
set_option maxHeartbeats 1000000 in
theorem gq_X12_nextLot_95 {a0 : Nat} {arr : Nat → Nat} {r : Int32} {w' : MS} {Q : Int32 → St → Prop} (hq : ∀ (s : St) (x : Int32), RF a0 arr s → gret x (absM a0 arr s) = some (r, w') → Q x s) {K5 : Nat → Int32 → Int32 → Int32 → Int32 → St → Prop} {LK5 : Int32 → Int32 → Int32 → Int32 → GM (Int32)} (hK5 : ∀ (y1 : Int32) (y2 : Int32) (y3 : Int32) (y4 : Int32) (y5 : St), RF a0 arr y5 → LK5 y1 y2 y3 y4 (absM a0 arr y5) = some (r, w') → K5 a0 y1 y2 y3 y4 y5) : ∀ (x1 : Int32) (x2 : Int32) (x3 : Int32) (x4 : Int32) (xs0 : Int32) (σ : St), RF a0 arr σ → g_X12_nextLot_95 LK5 x1 x2 x3 x4 xs0 (absM a0 arr σ) = some (r, w') → w_X12_nextLot_95 Q K5 a0 x1 x2 x3 x4 xs0 σ := by
  intro x1 x2 x3 x4 xs0 σ hR hp
  unfold g_X12_nextLot_95 at hp
  unfold w_X12_nextLot_95
  replace hp := grd_some hp
  refine ⟨fun c => ?_, fun c => ?_⟩
  · replace hp := gif_t hp c
    exact hK5 _ _ _ _ _ hR hp
  · replace hp := gif_f hp c
    refine ⟨fun c => ?_, fun c => ?_⟩
    · replace hp := gif_t hp c
      exact hK5 _ _ _ _ _ hR hp
    · replace hp := gif_f hp c
      intro o59 ho59
      rw [hR.ref 17 (by decide)] at ho59
      subst ho59
      refine ⟨arr 17, rfl, ?_⟩
      obtain ⟨hv, hp⟩ := gix_some hp
      refine ⟨by rw [hR.len 17 (by first | decide | assumption)]; exact hv, ?_⟩
      intro o62 ho62
      rw [hR.ref 17 (by decide)] at ho62
      subst ho62
      refine ⟨arr 17, rfl, ?_⟩
      obtain ⟨hv, hp⟩ := gix_some hp
      refine ⟨by rw [hR.len 17 (by first | decide | assumption)]; exact hv, ?_⟩
      refine ⟨fun c => ?_, fun c => ?_⟩
      · replace hp := gif_t hp c
        exact hK5 _ _ _ _ _ hR hp
      · replace hp := gif_f hp c
        exact hK5 _ _ _ _ _ hR hp
set_option maxRecDepth 100000 in
set_option maxHeartbeats 1000000 in
theorem gq_X12_nextLot_94 {a0 : Nat} {arr : Nat → Nat} {r : Int32} {w' : MS} {Q : Int32 → St → Prop} (hq : ∀ (s : St) (x : Int32), RF a0 arr s → gret x (absM a0 arr s) = some (r, w') → Q x s) {K5 : Nat → Int32 → Int32 → Int32 → Int32 → St → Prop} {LK5 : Int32 → Int32 → Int32 → Int32 → GM (Int32)} (hK5 : ∀ (y1 : Int32) (y2 : Int32) (y3 : Int32) (y4 : Int32) (y5 : St), RF a0 arr y5 → LK5 y1 y2 y3 y4 (absM a0 arr y5) = some (r, w') → K5 a0 y1 y2 y3 y4 y5) : ∀ (x1 : Int32) (x2 : Int32) (x3 : Int32) (x4 : Int32) (σ : St), RF a0 arr σ → g_X12_nextLot_94 LK5 x1 x2 x3 x4 (absM a0 arr σ) = some (r, w') → w_X12_nextLot_94 Q K5 a0 x1 x2 x3 x4 σ := by
  intro x1 x2 x3 x4 σ hR hp
  unfold g_X12_nextLot_94 at hp
  unfold w_X12_nextLot_94
  exact gq_X12_nextLot_95 hq hK5 _ _ _ _ _ _ hR hp
set_option maxRecDepth 100000 in
set_option maxHeartbeats 1000000 in
theorem gq_X12_nextLot_62 {a0 : Nat} {arr : Nat → Nat} {r : Int32} {w' : MS} {Q : Int32 → St → Prop} (hq : ∀ (s : St) (x : Int32), RF a0 arr s → gret x (absM a0 arr s) = some (r, w') → Q x s) {K5 : Nat → Int32 → Int32 → Int32 → Int32 → St → Prop} {LK5 : Int32 → Int32 → Int32 → Int32 → GM (Int32)} (hK5 : ∀ (y1 : Int32) (y2 : Int32) (y3 : Int32) (y4 : Int32) (y5 : St), RF a0 arr y5 → LK5 y1 y2 y3 y4 (absM a0 arr y5) = some (r, w') → K5 a0 y1 y2 y3 y4 y5) : ∀ (x1 : Int32) (x2 : Int32) (x3 : Int32) (x4 : Int32) (xs0 : Int32) (σ : St), RF a0 arr σ → g_X12_nextLot_62 LK5 x1 x2 x3 x4 xs0 (absM a0 arr σ) = some (r, w') → w_X12_nextLot_62 Q K5 a0 x1 x2 x3 x4 xs0 σ := by
  intro x1 x2 x3 x4 xs0 σ hR hp
  unfold g_X12_nextLot_62 at hp
  unfold w_X12_nextLot_62
  replace hp := grd_some hp
  intro o53 ho53
  rw [hR.ref 16 (by decide)] at ho53
  subst ho53
  refine ⟨arr 16, rfl, ?_⟩
  obtain ⟨hv, hp⟩ := gix_some hp
  refine ⟨by rw [hR.len 16 (by first | decide | assumption)]; exact hv, ?_⟩
  refine ⟨fun c => ?_, fun c => ?_⟩
  · replace hp := gif_f hp c
    exact gq_X12_nextLot_94 hq hK5 _ _ _ _ _ hR hp
  · replace hp := gif_t hp c
    intro o66 ho66
    rw [hR.ref 18 (by decide)] at ho66
    subst ho66
    refine ⟨arr 18, rfl, ?_⟩
    obtain ⟨hv, hp⟩ := gix_some hp
    refine ⟨by rw [hR.len 18 (by first | decide | assumption)]; exact hv, ?_⟩
    refine ⟨fun c => ?_, fun c => ?_⟩
    · replace hp := gif_f hp c
      exact gq_X12_nextLot_94 hq hK5 _ _ _ _ _ hR hp
    · replace hp := gif_t hp c
      refine ⟨fun c => ?_, fun c => ?_⟩
      · replace hp := gif_t hp c
        exact gq_X12_nextLot_94 hq hK5 _ _ _ _ _ hR hp
      · replace hp := gif_f hp c
        exact gq_X12_nextLot_95 hq hK5 _ _ _ _ _ _ hR hp
set_option maxRecDepth 100000 in
set_option maxHeartbeats 1000000 in
theorem gq_X12_nextLot_61 {a0 : Nat} {arr : Nat → Nat} {r : Int32} {w' : MS} {Q : Int32 → St → Prop} (hq : ∀ (s : St) (x : Int32), RF a0 arr s → gret x (absM a0 arr s) = some (r, w') → Q x s) {K5 : Nat → Int32 → Int32 → Int32 → Int32 → St → Prop} {LK5 : Int32 → Int32 → Int32 → Int32 → GM (Int32)} (hK5 : ∀ (y1 : Int32) (y2 : Int32) (y3 : Int32) (y4 : Int32) (y5 : St), RF a0 arr y5 → LK5 y1 y2 y3 y4 (absM a0 arr y5) = some (r, w') → K5 a0 y1 y2 y3 y4 y5) : ∀ (x1 : Int32) (x2 : Int32) (x3 : Int32) (x4 : Int32) (σ : St), RF a0 arr σ → g_X12_nextLot_61 LK5 x1 x2 x3 x4 (absM a0 arr σ) = some (r, w') → w_X12_nextLot_61 Q K5 a0 x1 x2 x3 x4 σ := by
  intro x1 x2 x3 x4 σ hR hp
  unfold g_X12_nextLot_61 at hp
  unfold w_X12_nextLot_61
  exact gq_X12_nextLot_62 hq hK5 _ _ _ _ _ _ hR hp
set_option maxRecDepth 100000 in
set_option maxHeartbeats 1000000 in
theorem gq_X12_nextLot_5 {a0 : Nat} {arr : Nat → Nat} {r : Int32} {w' : MS} {Q : Int32 → St → Prop} (hq : ∀ (s : St) (x : Int32), RF a0 arr s → gret x (absM a0 arr s) = some (r, w') → Q x s) : ∀ (f : Nat) (x1 : Int32) (x2 : Int32) (x3 : Int32) (x4 : Int32) (σ : St), RF a0 arr σ → g_X12_nextLot_5 f x1 x2 x3 x4 (absM a0 arr σ) = some (r, w') → w_X12_nextLot_5 Q  f a0 x1 x2 x3 x4 σ := by
  intro f
  induction f with
  | zero => intro x1 x2 x3 x4 σ hR hp; cases hp
  | succ f ih =>
    intro x1 x2 x3 x4 σ hR hp
    unfold g_X12_nextLot_5 at hp
    unfold w_X12_nextLot_5
    replace hp := grd_some hp
    refine ⟨fun c => ?_, fun c => ?_⟩
    · replace hp := gif_t hp c
      exact hq _ _ hR hp
    · replace hp := gif_f hp c
      refine ⟨fun c => ?_, fun c => ?_⟩
      · replace hp := gif_t hp c
        exact gq_X12_nextLot_62 hq ih _ _ _ _ _ _ hR hp
      · replace hp := gif_f hp c
        intro o71 ho71
        rw [hR.ref 17 (by decide)] at ho71
        subst ho71
        refine ⟨arr 17, rfl, ?_⟩
        obtain ⟨hv, hp⟩ := gix_some hp
        refine ⟨by rw [hR.len 17 (by first | decide | assumption)]; exact hv, ?_⟩
        intro o74 ho74
        rw [hR.ref 17 (by decide)] at ho74
        subst ho74
        refine ⟨arr 17, rfl, ?_⟩
        obtain ⟨hv, hp⟩ := gix_some hp
        refine ⟨by rw [hR.len 17 (by first | decide | assumption)]; exact hv, ?_⟩
        refine ⟨fun c => ?_, fun c => ?_⟩
        · replace hp := gif_t hp c
          exact gq_X12_nextLot_62 hq ih _ _ _ _ _ _ hR hp
        · replace hp := gif_f hp c
          intro o78 ho78
          rw [hR.ref 17 (by decide)] at ho78
          subst ho78
          refine ⟨arr 17, rfl, ?_⟩
          obtain ⟨hv, hp⟩ := gix_some hp
          refine ⟨by rw [hR.len 17 (by first | decide | assumption)]; exact hv, ?_⟩
          intro o81 ho81
          rw [hR.ref 17 (by decide)] at ho81
          subst ho81
          refine ⟨arr 17, rfl, ?_⟩
          obtain ⟨hv, hp⟩ := gix_some hp
          refine ⟨by rw [hR.len 17 (by first | decide | assumption)]; exact hv, ?_⟩
          refine ⟨fun c => ?_, fun c => ?_⟩
          · replace hp := gif_f hp c
            exact gq_X12_nextLot_61 hq ih _ _ _ _ _ hR hp
          · replace hp := gif_t hp c
            refine ⟨fun c => ?_, fun c => ?_⟩
            · replace hp := gif_t hp c
              exact gq_X12_nextLot_61 hq ih _ _ _ _ _ hR hp
            · replace hp := gif_f hp c
              exact gq_X12_nextLot_62 hq ih _ _ _ _ _ _ hR hp
set_option maxRecDepth 100000 in
set_option maxHeartbeats 1000000 in
theorem gq_X12_nextLot {a0 : Nat} {arr : Nat → Nat} {σ : St} {x1 : Int32} {x2 : Int32} (hR : RF a0 arr σ) {r : Int32} {w' : MS} (hp : g_X12_nextLot x1 x2 (absM a0 arr σ) = some (r, w')) {Q : Int32 → St → Prop} (hq : ∀ (s : St), RF a0 arr s → absM a0 arr s = w' → Q r s) : w_X12_nextLot a0 x1 x2 σ Q := by
  replace hq : ∀ (s : St) (x : Int32), RF a0 arr s → gret x (absM a0 arr s) = some (r, w') → Q x s := fun s x hR e => by obtain ⟨rfl, hw⟩ := gret_some e; exact hq s hR hw
  unfold g_X12_nextLot at hp
  unfold w_X12_nextLot
  refine ⟨FU, ?_⟩
  exact gq_X12_nextLot_5 hq FU _ _ _ _ _ hR hp
set_option maxRecDepth 100000 in
set_option maxHeartbeats 1000000 in
theorem gq_X12_nextOf_4 {a0 : Nat} {arr : Nat → Nat} {r : Int32} {w' : MS} {Q : Int32 → St → Prop} (hq : ∀ (s : St) (x : Int32), RF a0 arr s → gret x (absM a0 arr s) = some (r, w') → Q x s) : ∀ (f : Nat) (x1 : Int32) (x2 : Int32) (x3 : Int32) (σ : St), RF a0 arr σ → g_X12_nextOf_4 f x1 x2 x3 (absM a0 arr σ) = some (r, w') → w_X12_nextOf_4 Q  f a0 x1 x2 x3 σ := by
  intro f
  induction f with
  | zero => intro x1 x2 x3 σ hR hp; cases hp
  | succ f ih =>
    intro x1 x2 x3 σ hR hp
    unfold g_X12_nextOf_4 at hp
    unfold w_X12_nextOf_4
    replace hp := grd_some hp
    refine ⟨fun c => ?_, fun c => ?_⟩
    · replace hp := gif_t hp c
      exact hq _ _ hR hp
    · replace hp := gif_f hp c
      intro o52 ho52
      rw [hR.ref 57 (by decide)] at ho52
      subst ho52
      refine ⟨arr 57, rfl, ?_⟩
      obtain ⟨hv, hp⟩ := gix_some hp
      refine ⟨by rw [hR.len 57 (by first | decide | assumption)]; exact hv, ?_⟩
      refine ⟨fun c => ?_, fun c => ?_⟩
      · replace hp := gif_t hp c
        exact ih _ _ _ _ hR hp
      · replace hp := gif_f hp c
        intro o56 ho56
        rw [hR.ref 55 (by decide)] at ho56
        subst ho56
        refine ⟨arr 55, rfl, ?_⟩
        obtain ⟨hv, hp⟩ := gix_some hp
        refine ⟨by rw [hR.len 55 (by first | decide | assumption)]; exact hv, ?_⟩
        intro o59 ho59
        rw [hR.ref 57 (by decide)] at ho59
        subst ho59
        refine ⟨arr 57, rfl, ?_⟩
        obtain ⟨hv, hp⟩ := gix_some hp
        refine ⟨by rw [hR.len 57 (by first | decide | assumption)]; exact hv, ?_⟩
        refine ⟨fun c => ?_, fun c => ?_⟩
        · replace hp := gif_f hp c
          exact ih _ _ _ _ hR hp
        · replace hp := gif_t hp c
          exact ih _ _ _ _ hR hp
set_option maxRecDepth 100000 in
set_option maxHeartbeats 1000000 in
theorem gq_X12_nextOf {a0 : Nat} {arr : Nat → Nat} {σ : St} {x1 : Int32} (hR : RF a0 arr σ) {r : Int32} {w' : MS} (hp : g_X12_nextOf x1 (absM a0 arr σ) = some (r, w')) {Q : Int32 → St → Prop} (hq : ∀ (s : St), RF a0 arr s → absM a0 arr s = w' → Q r s) : w_X12_nextOf a0 x1 σ Q := by
  replace hq : ∀ (s : St) (x : Int32), RF a0 arr s → gret x (absM a0 arr s) = some (r, w') → Q x s := fun s x hR e => by obtain ⟨rfl, hw⟩ := gret_some e; exact hq s hR hw
  unfold g_X12_nextOf at hp
  unfold w_X12_nextOf
  refine ⟨FU, ?_⟩
  exact gq_X12_nextOf_4 hq FU _ _ _ _ hR hp
set_option maxRecDepth 100000 in
set_option maxHeartbeats 1000000 in
theorem gq_X12_slotAt {a0 : Nat} {arr : Nat → Nat} {σ : St} {x0 : Int32} (hR : RF a0 arr σ) {r : Int32} {w' : MS} (hp : g_X12_slotAt x0 (absM a0 arr σ) = some (r, w')) {Q : Int32 → St → Prop} (hq : ∀ (s : St), RF a0 arr s → absM a0 arr s = w' → Q r s) : w_X12_slotAt x0 σ Q := by
  replace hq : ∀ (s : St) (x : Int32), RF a0 arr s → gret x (absM a0 arr s) = some (r, w') → Q x s := fun s x hR e => by obtain ⟨rfl, hw⟩ := gret_some e; exact hq s hR hw
  unfold g_X12_slotAt at hp
  unfold w_X12_slotAt
  refine ⟨fun c => ?_, fun c => ?_⟩
  · replace hp := gif_f hp c
    exact hq _ _ hR hp
  · replace hp := gif_t hp c
    exact hq _ _ hR hp
set_option maxRecDepth 100000 in
set_option maxHeartbeats 1000000 in
theorem gq_X12_standstills {a0 : Nat} {arr : Nat → Nat} {σ : St}  (hR : RF a0 arr σ) {r : Int32} {w' : MS} (hp : g_X12_standstills (absM a0 arr σ) = some (r, w')) {Q : Int32 → St → Prop} (hq : ∀ (s : St), RF a0 arr s → absM a0 arr s = w' → Q r s) : w_X12_standstills a0 σ Q := by
  replace hq : ∀ (s : St) (x : Int32), RF a0 arr s → gret x (absM a0 arr s) = some (r, w') → Q x s := fun s x hR e => by obtain ⟨rfl, hw⟩ := gret_some e; exact hq s hR hw
  unfold g_X12_standstills at hp
  unfold w_X12_standstills
  intro s51 hs51
  have h2 := abs_setI (arr := arr) 0 (by decide) hs51
  replace hR := hR.setI hs51
  replace hp := gst_up hp h2
  clear h2 hs51
  replace hp := grd_some hp
  exact hq _ _ hR hp
set_option maxRecDepth 100000 in
set_option maxHeartbeats 1000000 in
theorem gq_X12_tasks {a0 : Nat} {arr : Nat → Nat} {σ : St}  (hR : RF a0 arr σ) {r : Int32} {w' : MS} (hp : g_X12_tasks (absM a0 arr σ) = some (r, w')) {Q : Int32 → St → Prop} (hq : ∀ (s : St), RF a0 arr s → absM a0 arr s = w' → Q r s) : w_X12_tasks a0 σ Q := by
  replace hq : ∀ (s : St) (x : Int32), RF a0 arr s → gret x (absM a0 arr s) = some (r, w') → Q x s := fun s x hR e => by obtain ⟨rfl, hw⟩ := gret_some e; exact hq s hR hw
  unfold g_X12_tasks at hp
  unfold w_X12_tasks
  intro s51 hs51
  have h2 := abs_setI (arr := arr) 0 (by decide) hs51
  replace hR := hR.setI hs51
  replace hp := gst_up hp h2
  clear h2 hs51
  replace hp := grd_some hp
  exact hq _ _ hR hp
set_option maxRecDepth 100000 in
set_option maxHeartbeats 1000000 in
theorem gq_X12_thrown {a0 : Nat} {arr : Nat → Nat} {σ : St}  (hR : RF a0 arr σ) {r : Int32} {w' : MS} (hp : g_X12_thrown (absM a0 arr σ) = some (r, w')) {Q : Int32 → St → Prop} (hq : ∀ (s : St), RF a0 arr s → absM a0 arr s = w' → Q r s) : w_X12_thrown a0 σ Q := by
  replace hq : ∀ (s : St) (x : Int32), RF a0 arr s → gret x (absM a0 arr s) = some (r, w') → Q x s := fun s x hR e => by obtain ⟨rfl, hw⟩ := gret_some e; exact hq s hR hw
  unfold g_X12_thrown at hp
  unfold w_X12_thrown
  replace hp := grd_some hp
  exact hq _ _ hR hp
set_option maxRecDepth 100000 in
set_option maxHeartbeats 1000000 in
theorem gq_X12_tidies_4 {a0 : Nat} {arr : Nat → Nat} {r : Unit} {w' : MS} {Q : St → Prop} (hq : ∀ (s : St), RF a0 arr s → gret () (absM a0 arr s) = some (r, w') → Q s) : ∀ (f : Nat) (x1 : Int32) (x2 : Int32) (σ : St), RF a0 arr σ → g_X12_tidies_4 f x1 x2 (absM a0 arr σ) = some (r, w') → w_X12_tidies_4 Q  f a0 x1 x2 σ := by
  intro f
  induction f with
  | zero => intro x1 x2 σ hR hp; cases hp
  | succ f ih =>
    intro x1 x2 σ hR hp
    unfold g_X12_tidies_4 at hp
    unfold w_X12_tidies_4
    replace hp := grd_some hp
    refine ⟨fun c => ?_, fun c => ?_⟩
    · replace hp := gif_t hp c
      intro s52 hs52
      have h2 := abs_setI (arr := arr) 39 (by decide) hs52
      replace hR := hR.setI hs52
      replace hp := gst_up hp h2
      clear h2 hs52
      exact hq _ hR hp
    · replace hp := gif_f hp c
      intro o53 ho53
      rw [hR.ref 43 (by decide)] at ho53
      subst ho53
      refine ⟨arr 43, rfl, ?_⟩
      obtain ⟨hv, hp⟩ := gix_some hp
      refine ⟨by rw [hR.len 43 (by first | decide | assumption)]; exact hv, ?_⟩
      refine ⟨fun c => ?_, fun c => ?_⟩
      · replace hp := gif_t hp c
        exact ih _ _ _ hR hp
      · replace hp := gif_f hp c
        intro o57 ho57
        rw [hR.ref 40 (by decide)] at ho57
        subst ho57
        intro o58 ho58
        rw [hR.ref 40 (by decide)] at ho58
        subst ho58
        refine ⟨arr 40, rfl, ?_⟩
        obtain ⟨hv, hp⟩ := gix_some hp
        refine ⟨by rw [hR.len 40 (by first | decide | assumption)]; exact hv, ?_⟩
        refine ⟨arr 40, rfl, ?_⟩
        obtain ⟨hv, hp⟩ := gix_some hp
        refine ⟨by rw [hR.len 40 (by first | decide | assumption)]; exact hv, ?_⟩
        intro s63 hs63
        have h2 := abs_setA hR 40 (by first | decide | assumption) hs63
        replace hR := hR.setA hs63
        replace hp := gst_up hp h2
        clear h2 hs63
        replace hp := grd_some hp
        intro o64 ho64
        rw [hR.ref 41 (by decide)] at ho64
        subst ho64
        intro o65 ho65
        rw [hR.ref 41 (by decide)] at ho65
        subst ho65
        refine ⟨arr 41, rfl, ?_⟩
        obtain ⟨hv, hp⟩ := gix_some hp
        refine ⟨by rw [hR.len 41 (by first | decide | assumption)]; exact hv, ?_⟩
        refine ⟨arr 41, rfl, ?_⟩
        obtain ⟨hv, hp⟩ := gix_some hp
        refine ⟨by rw [hR.len 41 (by first | decide | assumption)]; exact hv, ?_⟩
        intro s70 hs70
        have h2 := abs_setA hR 41 (by first | decide | assumption) hs70
        replace hR := hR.setA hs70
        replace hp := gst_up hp h2
        clear h2 hs70
        replace hp := grd_some hp
        intro o71 ho71
        rw [hR.ref 42 (by decide)] at ho71
        subst ho71
        intro o72 ho72
        rw [hR.ref 42 (by decide)] at ho72
        subst ho72
        refine ⟨arr 42, rfl, ?_⟩
        obtain ⟨hv, hp⟩ := gix_some hp
        refine ⟨by rw [hR.len 42 (by first | decide | assumption)]; exact hv, ?_⟩
        refine ⟨arr 42, rfl, ?_⟩
        obtain ⟨hv, hp⟩ := gix_some hp
        refine ⟨by rw [hR.len 42 (by first | decide | assumption)]; exact hv, ?_⟩
        intro s77 hs77
        have h2 := abs_setA hR 42 (by first | decide | assumption) hs77
        replace hR := hR.setA hs77
        replace hp := gst_up hp h2
        clear h2 hs77
        replace hp := grd_some hp
        intro o78 ho78
        rw [hR.ref 43 (by decide)] at ho78
        subst ho78
        intro o79 ho79
        rw [hR.ref 43 (by decide)] at ho79
        subst ho79
        refine ⟨arr 43, rfl, ?_⟩
        obtain ⟨hv, hp⟩ := gix_some hp
        refine ⟨by rw [hR.len 43 (by first | decide | assumption)]; exact hv, ?_⟩
        refine ⟨arr 43, rfl, ?_⟩
        obtain ⟨hv, hp⟩ := gix_some hp
        refine ⟨by rw [hR.len 43 (by first | decide | assumption)]; exact hv, ?_⟩
        intro s84 hs84
        have h2 := abs_setA hR 43 (by first | decide | assumption) hs84
        replace hR := hR.setA hs84
        replace hp := gst_up hp h2
        clear h2 hs84
        replace hp := grd_some hp
        intro o85 ho85
        rw [hR.ref 44 (by decide)] at ho85
        subst ho85
        intro o86 ho86
        rw [hR.ref 44 (by decide)] at ho86
        subst ho86
        refine ⟨arr 44, rfl, ?_⟩
        obtain ⟨hv, hp⟩ := gix_some hp
        refine ⟨by rw [hR.len 44 (by first | decide | assumption)]; exact hv, ?_⟩
        refine ⟨arr 44, rfl, ?_⟩
        obtain ⟨hv, hp⟩ := gix_some hp
        refine ⟨by rw [hR.len 44 (by first | decide | assumption)]; exact hv, ?_⟩
        intro s91 hs91
        have h2 := abs_setA hR 44 (by first | decide | assumption) hs91
        replace hR := hR.setA hs91
        replace hp := gst_up hp h2
        clear h2 hs91
        exact ih _ _ _ hR hp
set_option maxRecDepth 100000 in
set_option maxHeartbeats 1000000 in
theorem gq_X12_tidies {a0 : Nat} {arr : Nat → Nat} {σ : St}  (hR : RF a0 arr σ) {r : Unit} {w' : MS} (hp : g_X12_tidies (absM a0 arr σ) = some (r, w')) {Q : St → Prop} (hq : ∀ (s : St), RF a0 arr s → absM a0 arr s = w' → Q s) : w_X12_tidies a0 σ Q := by
  replace hq : ∀ (s : St), RF a0 arr s → gret () (absM a0 arr s) = some (r, w') → Q s := fun s hR e => by obtain ⟨rfl, hw⟩ := gret_some e; exact hq s hR hw
  unfold g_X12_tidies at hp
  unfold w_X12_tidies
  refine ⟨FU, ?_⟩
  exact gq_X12_tidies_4 hq FU _ _ _ hR hp
set_option maxRecDepth 100000 in
set_option maxHeartbeats 1000000 in
theorem gq_X12_arePieces {a0 : Nat} {arr : Nat → Nat} {σ : St} {x0 : Int32} (hR : RF a0 arr σ) {r : Int32} {w' : MS} (hp : g_X12_arePieces x0 (absM a0 arr σ) = some (r, w')) {Q : Int32 → St → Prop} (hq : ∀ (s : St), RF a0 arr s → absM a0 arr s = w' → Q r s) : w_X12_arePieces x0 σ Q := by
  replace hq : ∀ (s : St) (x : Int32), RF a0 arr s → gret x (absM a0 arr s) = some (r, w') → Q x s := fun s x hR e => by obtain ⟨rfl, hw⟩ := gret_some e; exact hq s hR hw
  unfold g_X12_arePieces at hp
  unfold w_X12_arePieces
  obtain ⟨x51, w52, he, hp⟩ := gb_some hp
  refine gq_X12_isIn hR he (fun s52 hR hw => ?_)
  subst hw
  clear he
  obtain ⟨hv, hp⟩ := gmd_some hp
  refine ⟨of_decide_eq_true hv, ?_⟩
  exact hq _ _ hR hp
set_option maxRecDepth 100000 in
set_option maxHeartbeats 1000000 in
theorem gq_X12_heldAt_79 {a0 : Nat} {arr : Nat → Nat} {r : Int32} {w' : MS} {Q : Int32 → St → Prop} (hq : ∀ (s : St) (x : Int32), RF a0 arr s → gret x (absM a0 arr s) = some (r, w') → Q x s) : ∀ (f : Nat) (x1 : Int32) (x2 : Int32) (x3 : Int32) (x4 : Int32) (σ : St), RF a0 arr σ → g_X12_heldAt_79 f x1 x2 x3 x4 (absM a0 arr σ) = some (r, w') → w_X12_heldAt_79 Q  f a0 x1 x2 x3 x4 σ := by
  intro f
  induction f with
  | zero => intro x1 x2 x3 x4 σ hR hp; cases hp
  | succ f ih =>
    intro x1 x2 x3 x4 σ hR hp
    unfold g_X12_heldAt_79 at hp
    unfold w_X12_heldAt_79
    replace hp := grd_some hp
    refine ⟨fun c => ?_, fun c => ?_⟩
    · replace hp := gif_t hp c
      exact hq _ _ hR hp
    · replace hp := gif_f hp c
      intro o53 ho53
      rw [hR.ref 41 (by decide)] at ho53
      subst ho53
      refine ⟨arr 41, rfl, ?_⟩
      obtain ⟨hv, hp⟩ := gix_some hp
      refine ⟨by rw [hR.len 41 (by first | decide | assumption)]; exact hv, ?_⟩
      refine ⟨fun c => ?_, fun c => ?_⟩
      · replace hp := gif_f hp c
        intro x57 hx57
        obtain ⟨yx57, ex57, hp⟩ := gbo_some hp
        obtain rfl : yx57 = x57 := ex57.trans hx57.symm
        exact ih _ _ _ _ _ hR hp
      · replace hp := gif_t hp c
        intro o58 ho58
        rw [hR.ref 42 (by decide)] at ho58
        subst ho58
        refine ⟨arr 42, rfl, ?_⟩
        obtain ⟨hv, hp⟩ := gix_some hp
        refine ⟨by rw [hR.len 42 (by first | decide | assumption)]; exact hv, ?_⟩
        refine ⟨fun c => ?_, fun c => ?_⟩
        · replace hp := gif_f hp c
          intro x62 hx62
          obtain ⟨yx62, ex62, hp⟩ := gbo_some hp
          obtain rfl : yx62 = x62 := ex62.trans hx62.symm
          exact ih _ _ _ _ _ hR hp
        · replace hp := gif_t hp c
          intro o63 ho63
          rw [hR.ref 43 (by decide)] at ho63
          subst ho63
          refine ⟨arr 43, rfl, ?_⟩
          obtain ⟨hv, hp⟩ := gix_some hp
          refine ⟨by rw [hR.len 43 (by first | decide | assumption)]; exact hv, ?_⟩
          intro x66 hx66
          obtain ⟨yx66, ex66, hp⟩ := gbo_some hp
          obtain rfl : yx66 = x66 := ex66.trans hx66.symm
          exact ih _ _ _ _ _ hR hp
set_option maxRecDepth 100000 in
set_option maxHeartbeats 1000000 in
theorem gq_X12_heldAt_5 {a0 : Nat} {arr : Nat → Nat} {r : Int32} {w' : MS} {Q : Int32 → St → Prop} (hq : ∀ (s : St) (x : Int32), RF a0 arr s → gret x (absM a0 arr s) = some (r, w') → Q x s) : ∀ (f : Nat) (x1 : Int32) (x2 : Int32) (x3 : Int32) (x4 : Int32) (σ : St), RF a0 arr σ → g_X12_heldAt_5 f x1 x2 x3 x4 (absM a0 arr σ) = some (r, w') → w_X12_heldAt_5 Q  f a0 x1 x2 x3 x4 σ := by
  intro f
  induction f with
  | zero => intro x1 x2 x3 x4 σ hR hp; cases hp
  | succ f ih =>
    intro x1 x2 x3 x4 σ hR hp
    unfold g_X12_heldAt_5 at hp
    unfold w_X12_heldAt_5
    replace hp := grd_some hp
    refine ⟨fun c => ?_, fun c => ?_⟩
    · replace hp := gif_t hp c
      refine ⟨FU, ?_⟩
      exact gq_X12_heldAt_79 hq FU _ _ _ _ _ hR hp
    · replace hp := gif_f hp c
      obtain ⟨x68, w69, he, hp⟩ := gb_some hp
      refine gq_X12_isOn hR he (fun s69 hR hw => ?_)
      subst hw
      clear he
      replace hp := grd_some hp
      refine ⟨fun c => ?_, fun c => ?_⟩
      · replace hp := gif_t hp c
        intro x71 hx71
        obtain ⟨yx71, ex71, hp⟩ := gbo_some hp
        obtain rfl : yx71 = x71 := ex71.trans hx71.symm
        exact ih _ _ _ _ _ hR hp
      · replace hp := gif_f hp c
        intro o72 ho72
        rw [hR.ref 46 (by decide)] at ho72
        subst ho72
        refine ⟨arr 46, rfl, ?_⟩
        obtain ⟨hv, hp⟩ := gix_some hp
        refine ⟨by rw [hR.len 46 (by first | decide | assumption)]; exact hv, ?_⟩
        refine ⟨fun c => ?_, fun c => ?_⟩
        · replace hp := gif_t hp c
          intro x76 hx76
          obtain ⟨yx76, ex76, hp⟩ := gbo_some hp
          obtain rfl : yx76 = x76 := ex76.trans hx76.symm
          exact ih _ _ _ _ _ hR hp
        · replace hp := gif_f hp c
          intro o77 ho77
          rw [hR.ref 48 (by decide)] at ho77
          subst ho77
          refine ⟨arr 48, rfl, ?_⟩
          obtain ⟨hv, hp⟩ := gix_some hp
          refine ⟨by rw [hR.len 48 (by first | decide | assumption)]; exact hv, ?_⟩
          refine ⟨fun c => ?_, fun c => ?_⟩
          · replace hp := gif_f hp c
            intro x81 hx81
            obtain ⟨yx81, ex81, hp⟩ := gbo_some hp
            obtain rfl : yx81 = x81 := ex81.trans hx81.symm
            exact ih _ _ _ _ _ hR hp
          · replace hp := gif_t hp c
            intro o82 ho82
            rw [hR.ref 47 (by decide)] at ho82
            subst ho82
            refine ⟨arr 47, rfl, ?_⟩
            obtain ⟨hv, hp⟩ := gix_some hp
            refine ⟨by rw [hR.len 47 (by first | decide | assumption)]; exact hv, ?_⟩
            refine ⟨fun c => ?_, fun c => ?_⟩
            · replace hp := gif_f hp c
              intro x86 hx86
              obtain ⟨yx86, ex86, hp⟩ := gbo_some hp
              obtain rfl : yx86 = x86 := ex86.trans hx86.symm
              exact ih _ _ _ _ _ hR hp
            · replace hp := gif_t hp c
              intro o87 ho87
              rw [hR.ref 51 (by decide)] at ho87
              subst ho87
              refine ⟨arr 51, rfl, ?_⟩
              obtain ⟨hv, hp⟩ := gix_some hp
              refine ⟨by rw [hR.len 51 (by first | decide | assumption)]; exact hv, ?_⟩
              intro x90 hx90
              obtain ⟨yx90, ex90, hp⟩ := gbo_some hp
              obtain rfl : yx90 = x90 := ex90.trans hx90.symm
              exact ih _ _ _ _ _ hR hp
set_option maxRecDepth 100000 in
set_option maxHeartbeats 1000000 in
theorem gq_X12_heldAt {a0 : Nat} {arr : Nat → Nat} {σ : St} {x1 : Int32} {x2 : Int32} (hR : RF a0 arr σ) {r : Int32} {w' : MS} (hp : g_X12_heldAt x1 x2 (absM a0 arr σ) = some (r, w')) {Q : Int32 → St → Prop} (hq : ∀ (s : St), RF a0 arr s → absM a0 arr s = w' → Q r s) : w_X12_heldAt a0 x1 x2 σ Q := by
  replace hq : ∀ (s : St) (x : Int32), RF a0 arr s → gret x (absM a0 arr s) = some (r, w') → Q x s := fun s x hR e => by obtain ⟨rfl, hw⟩ := gret_some e; exact hq s hR hw
  unfold g_X12_heldAt at hp
  unfold w_X12_heldAt
  refine ⟨FU, ?_⟩
  exact gq_X12_heldAt_5 hq FU _ _ _ _ _ hR hp
set_option maxRecDepth 100000 in
set_option maxHeartbeats 1000000 in
theorem gq_X12_isGroup {a0 : Nat} {arr : Nat → Nat} {σ : St} {x0 : Int32} (hR : RF a0 arr σ) {r : Int32} {w' : MS} (hp : g_X12_isGroup x0 (absM a0 arr σ) = some (r, w')) {Q : Int32 → St → Prop} (hq : ∀ (s : St), RF a0 arr s → absM a0 arr s = w' → Q r s) : w_X12_isGroup x0 σ Q := by
  replace hq : ∀ (s : St) (x : Int32), RF a0 arr s → gret x (absM a0 arr s) = some (r, w') → Q x s := fun s x hR e => by obtain ⟨rfl, hw⟩ := gret_some e; exact hq s hR hw
  unfold g_X12_isGroup at hp
  unfold w_X12_isGroup
  obtain ⟨x51, w52, he, hp⟩ := gb_some hp
  refine gq_X12_isIn hR he (fun s52 hR hw => ?_)
  subst hw
  clear he
  obtain ⟨hv, hp⟩ := gmd_some hp
  refine ⟨of_decide_eq_true hv, ?_⟩
  exact hq _ _ hR hp
set_option maxRecDepth 100000 in
set_option maxHeartbeats 1000000 in
theorem gq_X12_isInRing_23 {a0 : Nat} {arr : Nat → Nat} {r : Int32} {w' : MS} {Q : Int32 → St → Prop} (hq : ∀ (s : St) (x : Int32), RF a0 arr s → gret x (absM a0 arr s) = some (r, w') → Q x s) {K4 : Nat → Int32 → Int32 → Int32 → St → Prop} {LK4 : Int32 → Int32 → Int32 → GM (Int32)} (hK4 : ∀ (y1 : Int32) (y2 : Int32) (y3 : Int32) (y4 : St), RF a0 arr y4 → LK4 y1 y2 y3 (absM a0 arr y4) = some (r, w') → K4 a0 y1 y2 y3 y4) : ∀ (x1 : Int32) (x3 : Int32) (xs0 : Int32) (σ : St), RF a0 arr σ → g_X12_isInRing_23 LK4 x1 x3 xs0 (absM a0 arr σ) = some (r, w') → w_X12_isInRing_23 Q K4 a0 x1 x3 xs0 σ := by
  intro x1 x3 xs0 σ hR hp
  unfold g_X12_isInRing_23 at hp
  unfold w_X12_isInRing_23
  refine ⟨fun c => ?_, fun c => ?_⟩
  · replace hp := gif_f hp c
    exact hK4 _ _ _ _ hR hp
  · replace hp := gif_t hp c
    exact hq _ _ hR hp
set_option maxRecDepth 100000 in
set_option maxHeartbeats 1000000 in
theorem gq_X12_isInRing_4 {a0 : Nat} {arr : Nat → Nat} {r : Int32} {w' : MS} {Q : Int32 → St → Prop} (hq : ∀ (s : St) (x : Int32), RF a0 arr s → gret x (absM a0 arr s) = some (r, w') → Q x s) : ∀ (f : Nat) (x1 : Int32) (x2 : Int32) (x3 : Int32) (σ : St), RF a0 arr σ → g_X12_isInRing_4 f x1 x2 x3 (absM a0 arr σ) = some (r, w') → w_X12_isInRing_4 Q  f a0 x1 x2 x3 σ := by
  intro f
  induction f with
  | zero => intro x1 x2 x3 σ hR hp; cases hp
  | succ f ih =>
    intro x1 x2 x3 σ hR hp
    unfold g_X12_isInRing_4 at hp
    unfold w_X12_isInRing_4
    refine ⟨fun c => ?_, fun c => ?_⟩
    · replace hp := gif_t hp c
      exact hq _ _ hR hp
    · replace hp := gif_f hp c
      refine ⟨fun c => ?_, fun c => ?_⟩
      · replace hp := gif_f hp c
        obtain ⟨x53, w54, he, hp⟩ := gb_some hp
        refine gq_X12_nextOf hR he (fun s54 hR hw => ?_)
        subst hw
        clear he
        exact gq_X12_isInRing_23 hq ih _ _ _ _ hR hp
      · replace hp := gif_t hp c
        exact gq_X12_isInRing_23 hq ih _ _ _ _ hR hp
set_option maxRecDepth 100000 in
set_option maxHeartbeats 1000000 in
theorem gq_X12_isInRing {a0 : Nat} {arr : Nat → Nat} {σ : St} {x1 : Int32} (hR : RF a0 arr σ) {r : Int32} {w' : MS} (hp : g_X12_isInRing x1 (absM a0 arr σ) = some (r, w')) {Q : Int32 → St → Prop} (hq : ∀ (s : St), RF a0 arr s → absM a0 arr s = w' → Q r s) : w_X12_isInRing a0 x1 σ Q := by
  replace hq : ∀ (s : St) (x : Int32), RF a0 arr s → gret x (absM a0 arr s) = some (r, w') → Q x s := fun s x hR e => by obtain ⟨rfl, hw⟩ := gret_some e; exact hq s hR hw
  unfold g_X12_isInRing at hp
  unfold w_X12_isInRing
  refine ⟨FU, ?_⟩
  exact gq_X12_isInRing_4 hq FU _ _ _ _ hR hp
set_option maxRecDepth 100000 in
set_option maxHeartbeats 1000000 in
theorem gq_X12_isItem {a0 : Nat} {arr : Nat → Nat} {σ : St} {x0 : Int32} (hR : RF a0 arr σ) {r : Int32} {w' : MS} (hp : g_X12_isItem x0 (absM a0 arr σ) = some (r, w')) {Q : Int32 → St → Prop} (hq : ∀ (s : St), RF a0 arr s → absM a0 arr s = w' → Q r s) : w_X12_isItem x0 σ Q := by
  replace hq : ∀ (s : St) (x : Int32), RF a0 arr s → gret x (absM a0 arr s) = some (r, w') → Q x s := fun s x hR e => by obtain ⟨rfl, hw⟩ := gret_some e; exact hq s hR hw
  unfold g_X12_isItem at hp
  unfold w_X12_isItem
  obtain ⟨x51, w52, he, hp⟩ := gb_some hp
  refine gq_X12_isIn hR he (fun s52 hR hw => ?_)
  subst hw
  clear he
  obtain ⟨hv, hp⟩ := gmd_some hp
  refine ⟨of_decide_eq_true hv, ?_⟩
  exact hq _ _ hR hp
set_option maxRecDepth 100000 in
set_option maxHeartbeats 1000000 in
theorem gq_X12_isLot {a0 : Nat} {arr : Nat → Nat} {σ : St} {x1 : Int32} (hR : RF a0 arr σ) {r : Int32} {w' : MS} (hp : g_X12_isLot x1 (absM a0 arr σ) = some (r, w')) {Q : Int32 → St → Prop} (hq : ∀ (s : St), RF a0 arr s → absM a0 arr s = w' → Q r s) : w_X12_isLot a0 x1 σ Q := by
  replace hq : ∀ (s : St) (x : Int32), RF a0 arr s → gret x (absM a0 arr s) = some (r, w') → Q x s := fun s x hR e => by obtain ⟨rfl, hw⟩ := gret_some e; exact hq s hR hw
  unfold g_X12_isLot at hp
  unfold w_X12_isLot
  replace hp := grd_some hp
  obtain ⟨x51, w52, he, hp⟩ := gb_some hp
  refine gq_X12_isIn hR he (fun s52 hR hw => ?_)
  subst hw
  clear he
  obtain ⟨hv, hp⟩ := gmd_some hp
  refine ⟨of_decide_eq_true hv, ?_⟩
  exact hq _ _ hR hp
set_option maxRecDepth 100000 in
set_option maxHeartbeats 1000000 in
theorem gq_X12_isNotice {a0 : Nat} {arr : Nat → Nat} {σ : St} {x1 : Int32} (hR : RF a0 arr σ) {r : Int32} {w' : MS} (hp : g_X12_isNotice x1 (absM a0 arr σ) = some (r, w')) {Q : Int32 → St → Prop} (hq : ∀ (s : St), RF a0 arr s → absM a0 arr s = w' → Q r s) : w_X12_isNotice a0 x1 σ Q := by
  replace hq : ∀ (s : St) (x : Int32), RF a0 arr s → gret x (absM a0 arr s) = some (r, w') → Q x s := fun s x hR e => by obtain ⟨rfl, hw⟩ := gret_some e; exact hq s hR hw
  unfold g_X12_isNotice at hp
  unfold w_X12_isNotice
  replace hp := grd_some hp
  obtain ⟨x51, w52, he, hp⟩ := gb_some hp
  refine gq_X12_isIn hR he (fun s52 hR hw => ?_)
  subst hw
  clear he
  obtain ⟨hv, hp⟩ := gmd_some hp
  refine ⟨of_decide_eq_true hv, ?_⟩
  exact hq _ _ hR hp
set_option maxRecDepth 100000 in
set_option maxHeartbeats 1000000 in
theorem gq_X12_isOrder {a0 : Nat} {arr : Nat → Nat} {σ : St} {x1 : Int32} (hR : RF a0 arr σ) {r : Int32} {w' : MS} (hp : g_X12_isOrder x1 (absM a0 arr σ) = some (r, w')) {Q : Int32 → St → Prop} (hq : ∀ (s : St), RF a0 arr s → absM a0 arr s = w' → Q r s) : w_X12_isOrder a0 x1 σ Q := by
  replace hq : ∀ (s : St) (x : Int32), RF a0 arr s → gret x (absM a0 arr s) = some (r, w') → Q x s := fun s x hR e => by obtain ⟨rfl, hw⟩ := gret_some e; exact hq s hR hw
  unfold g_X12_isOrder at hp
  unfold w_X12_isOrder
  replace hp := grd_some hp
  obtain ⟨x51, w52, he, hp⟩ := gb_some hp
  refine gq_X12_isIn hR he (fun s52 hR hw => ?_)
  subst hw
  clear he
  obtain ⟨hv, hp⟩ := gmd_some hp
  refine ⟨of_decide_eq_true hv, ?_⟩
  exact hq _ _ hR hp
set_option maxRecDepth 100000 in
set_option maxHeartbeats 1000000 in
theorem gq_X12_isRobot {a0 : Nat} {arr : Nat → Nat} {σ : St} {x0 : Int32} (hR : RF a0 arr σ) {r : Int32} {w' : MS} (hp : g_X12_isRobot x0 (absM a0 arr σ) = some (r, w')) {Q : Int32 → St → Prop} (hq : ∀ (s : St), RF a0 arr s → absM a0 arr s = w' → Q r s) : w_X12_isRobot x0 σ Q := by
  replace hq : ∀ (s : St) (x : Int32), RF a0 arr s → gret x (absM a0 arr s) = some (r, w') → Q x s := fun s x hR e => by obtain ⟨rfl, hw⟩ := gret_some e; exact hq s hR hw
  unfold g_X12_isRobot at hp
  unfold w_X12_isRobot
  obtain ⟨x51, w52, he, hp⟩ := gb_some hp
  refine gq_X12_isIn hR he (fun s52 hR hw => ?_)
  subst hw
  clear he
  obtain ⟨hv, hp⟩ := gmd_some hp
  refine ⟨of_decide_eq_true hv, ?_⟩
  exact hq _ _ hR hp
set_option maxRecDepth 100000 in
set_option maxHeartbeats 1000000 in
theorem gq_X12_isSlot {a0 : Nat} {arr : Nat → Nat} {σ : St} {x0 : Int32} (hR : RF a0 arr σ) {r : Int32} {w' : MS} (hp : g_X12_isSlot x0 (absM a0 arr σ) = some (r, w')) {Q : Int32 → St → Prop} (hq : ∀ (s : St), RF a0 arr s → absM a0 arr s = w' → Q r s) : w_X12_isSlot x0 σ Q := by
  replace hq : ∀ (s : St) (x : Int32), RF a0 arr s → gret x (absM a0 arr s) = some (r, w') → Q x s := fun s x hR e => by obtain ⟨rfl, hw⟩ := gret_some e; exact hq s hR hw
  unfold g_X12_isSlot at hp
  unfold w_X12_isSlot
  obtain ⟨x51, w52, he, hp⟩ := gb_some hp
  refine gq_X12_isIn hR he (fun s52 hR hw => ?_)
  subst hw
  clear he
  obtain ⟨hv, hp⟩ := gmd_some hp
  refine ⟨of_decide_eq_true hv, ?_⟩
  exact hq _ _ hR hp
set_option maxRecDepth 100000 in
set_option maxHeartbeats 1000000 in
theorem gq_X12_isTask {a0 : Nat} {arr : Nat → Nat} {σ : St} {x1 : Int32} (hR : RF a0 arr σ) {r : Int32} {w' : MS} (hp : g_X12_isTask x1 (absM a0 arr σ) = some (r, w')) {Q : Int32 → St → Prop} (hq : ∀ (s : St), RF a0 arr s → absM a0 arr s = w' → Q r s) : w_X12_isTask a0 x1 σ Q := by
  replace hq : ∀ (s : St) (x : Int32), RF a0 arr s → gret x (absM a0 arr s) = some (r, w') → Q x s := fun s x hR e => by obtain ⟨rfl, hw⟩ := gret_some e; exact hq s hR hw
  unfold g_X12_isTask at hp
  unfold w_X12_isTask
  replace hp := grd_some hp
  obtain ⟨x51, w52, he, hp⟩ := gb_some hp
  refine gq_X12_isIn hR he (fun s52 hR hw => ?_)
  subst hw
  clear he
  obtain ⟨hv, hp⟩ := gmd_some hp
  refine ⟨of_decide_eq_true hv, ?_⟩
  exact hq _ _ hR hp
set_option maxRecDepth 100000 in
set_option maxHeartbeats 1000000 in
theorem gq_X12_keeps_31 {a0 : Nat} {arr : Nat → Nat} {r : Int32} {w' : MS} {Q : Int32 → St → Prop} (hq : ∀ (s : St) (x : Int32), RF a0 arr s → gret x (absM a0 arr s) = some (r, w') → Q x s) : ∀ (x1 : Int32) (σ : St), RF a0 arr σ → g_X12_keeps_31 x1 (absM a0 arr σ) = some (r, w') → w_X12_keeps_31 Q  a0 x1 σ := by
  intro x1 σ hR hp
  unfold g_X12_keeps_31 at hp
  unfold w_X12_keeps_31
  replace hp := grd_some hp
  intro o64 ho64
  rw [hR.ref 51 (by decide)] at ho64
  subst ho64
  refine ⟨arr 51, rfl, ?_⟩
  obtain ⟨hv, hp⟩ := gix_some hp
  refine ⟨by rw [hR.len 51 (by first | decide | assumption)]; exact hv, ?_⟩
  exact hq _ _ hR hp
set_option maxRecDepth 100000 in
set_option maxHeartbeats 1000000 in
theorem gq_X12_keeps {a0 : Nat} {arr : Nat → Nat} {σ : St} {x1 : Int32} {x2 : Int32} (hR : RF a0 arr σ) {r : Int32} {w' : MS} (hp : g_X12_keeps x1 x2 (absM a0 arr σ) = some (r, w')) {Q : Int32 → St → Prop} (hq : ∀ (s : St), RF a0 arr s → absM a0 arr s = w' → Q r s) : w_X12_keeps a0 x1 x2 σ Q := by
  replace hq : ∀ (s : St) (x : Int32), RF a0 arr s → gret x (absM a0 arr s) = some (r, w') → Q x s := fun s x hR e => by obtain ⟨rfl, hw⟩ := gret_some e; exact hq s hR hw
  unfold g_X12_keeps at hp
  unfold w_X12_keeps
  replace hp := grd_some hp
  intro o51 ho51
  rw [hR.ref 51 (by decide)] at ho51
  subst ho51
  intro o52 ho52
  rw [hR.ref 51 (by decide)] at ho52
  subst ho52
  refine ⟨arr 51, rfl, ?_⟩
  obtain ⟨hv, hp⟩ := gix_some hp
  refine ⟨by rw [hR.len 51 (by first | decide | assumption)]; exact hv, ?_⟩
  obtain ⟨x55, w56, he, hp⟩ := gb_some hp
  refine gq_X12_less hR he (fun s56 hR hw => ?_)
  subst hw
  clear he
  refine ⟨arr 51, rfl, ?_⟩
  obtain ⟨hv, hp⟩ := gix_some hp
  refine ⟨by rw [hR.len 51 (by first | decide | assumption)]; exact hv, ?_⟩
  intro s59 hs59
  have h2 := abs_setA hR 51 (by first | decide | assumption) hs59
  replace hR := hR.setA hs59
  replace hp := gst_up hp h2
  clear h2 hs59
  replace hp := grd_some hp
  intro o60 ho60
  rw [hR.ref 51 (by decide)] at ho60
  subst ho60
  refine ⟨arr 51, rfl, ?_⟩
  obtain ⟨hv, hp⟩ := gix_some hp
  refine ⟨by rw [hR.len 51 (by first | decide | assumption)]; exact hv, ?_⟩
  refine ⟨fun c => ?_, fun c => ?_⟩
  · replace hp := gif_f hp c
    exact gq_X12_keeps_31 hq _ _ hR hp
  · replace hp := gif_t hp c
    obtain ⟨u68, w68, he, hp⟩ := gb_some hp
    refine gq_X12_ends hR he (fun s68 hR hw => ?_)
    subst hw
    clear he
    exact gq_X12_keeps_31 hq _ _ hR hp
set_option maxRecDepth 100000 in
set_option maxHeartbeats 1000000 in
theorem gq_X12_makesPicks_70 {a0 : Nat} {arr : Nat → Nat} {r : Unit} {w' : MS} {Q : St → Prop} (hq : ∀ (s : St), RF a0 arr s → gret () (absM a0 arr s) = some (r, w') → Q s) {K3 : Nat → Int32 → Int32 → Int32 → Int32 → St → Prop} {LK3 : Int32 → Int32 → Int32 → Int32 → GM (Unit)} (hK3 : ∀ (y1 : Int32) (y2 : Int32) (y3 : Int32) (y4 : Int32) (y5 : St), RF a0 arr y5 → LK3 y1 y2 y3 y4 (absM a0 arr y5) = some (r, w') → K3 a0 y1 y2 y3 y4 y5) {K13 : Nat → Int32 → Int32 → Int32 → Int32 → Int32 → St → Prop} {LK13 : Int32 → Int32 → Int32 → Int32 → Int32 → GM (Unit)} (hK13 : ∀ (y1 : Int32) (y2 : Int32) (y3 : Int32) (y4 : Int32) (y5 : Int32) (y6 : St), RF a0 arr y6 → LK13 y1 y2 y3 y4 y5 (absM a0 arr y6) = some (r, w') → K13 a0 y1 y2 y3 y4 y5 y6) : ∀ (x1 : Int32) (x2 : Int32) (x3 : Int32) (x4 : Int32) (x5 : Int32) (xs0 : Int32) (σ : St), RF a0 arr σ → g_X12_makesPicks_70 LK3 LK13 x1 x2 x3 x4 x5 xs0 (absM a0 arr σ) = some (r, w') → w_X12_makesPicks_70 Q K3 K13 a0 x1 x2 x3 x4 x5 xs0 σ := by
  intro x1 x2 x3 x4 x5 xs0 σ hR hp
  unfold g_X12_makesPicks_70 at hp
  unfold w_X12_makesPicks_70
  refine ⟨fun c => ?_, fun c => ?_⟩
  · replace hp := gif_t hp c
    exact hK13 _ _ _ _ _ _ hR hp
  · replace hp := gif_f hp c
    obtain ⟨x58, w59, he, hp⟩ := gb_some hp
    refine gq_X12_isFor hR he (fun s59 hR hw => ?_)
    subst hw
    clear he
    replace hp := grd_some hp
    refine ⟨fun c => ?_, fun c => ?_⟩
    · replace hp := gif_t hp c
      exact hK13 _ _ _ _ _ _ hR hp
    · replace hp := gif_f hp c
      intro o61 ho61
      rw [hR.ref 42 (by decide)] at ho61
      subst ho61
      refine ⟨arr 42, rfl, ?_⟩
      obtain ⟨hv, hp⟩ := gix_some hp
      refine ⟨by rw [hR.len 42 (by first | decide | assumption)]; exact hv, ?_⟩
      intro o64 ho64
      rw [hR.ref 40 (by decide)] at ho64
      subst ho64
      refine ⟨arr 40, rfl, ?_⟩
      obtain ⟨hv, hp⟩ := gix_some hp
      refine ⟨by rw [hR.len 40 (by first | decide | assumption)]; exact hv, ?_⟩
      intro o67 ho67
      rw [hR.ref 43 (by decide)] at ho67
      subst ho67
      refine ⟨arr 43, rfl, ?_⟩
      obtain ⟨hv, hp⟩ := gix_some hp
      refine ⟨by rw [hR.len 43 (by first | decide | assumption)]; exact hv, ?_⟩
      obtain ⟨x70, w71, he, hp⟩ := gb_some hp
      refine gq_X12_makes hR he (fun s71 hR hw => ?_)
      subst hw
      clear he
      intro o72 ho72
      rw [hR.ref 44 (by decide)] at ho72
      subst ho72
      refine ⟨arr 44, rfl, ?_⟩
      obtain ⟨hv, hp⟩ := gix_some hp
      refine ⟨by rw [hR.len 44 (by first | decide | assumption)]; exact hv, ?_⟩
      intro s75 hs75
      have h2 := abs_setA hR 44 (by first | decide | assumption) hs75
      replace hR := hR.setA hs75
      replace hp := gst_up hp h2
      clear h2 hs75
      obtain ⟨u77, w77, he, hp⟩ := gb_some hp
      refine gq_X12_gives hR he (fun s77 hR hw => ?_)
      subst hw
      clear he
      exact hK13 _ _ _ _ _ _ hR hp
set_option maxRecDepth 100000 in
set_option maxHeartbeats 1000000 in
theorem gq_X12_makesPicks_69 {a0 : Nat} {arr : Nat → Nat} {r : Unit} {w' : MS} {Q : St → Prop} (hq : ∀ (s : St), RF a0 arr s → gret () (absM a0 arr s) = some (r, w') → Q s) {K3 : Nat → Int32 → Int32 → Int32 → Int32 → St → Prop} {LK3 : Int32 → Int32 → Int32 → Int32 → GM (Unit)} (hK3 : ∀ (y1 : Int32) (y2 : Int32) (y3 : Int32) (y4 : Int32) (y5 : St), RF a0 arr y5 → LK3 y1 y2 y3 y4 (absM a0 arr y5) = some (r, w') → K3 a0 y1 y2 y3 y4 y5) {K13 : Nat → Int32 → Int32 → Int32 → Int32 → Int32 → St → Prop} {LK13 : Int32 → Int32 → Int32 → Int32 → Int32 → GM (Unit)} (hK13 : ∀ (y1 : Int32) (y2 : Int32) (y3 : Int32) (y4 : Int32) (y5 : Int32) (y6 : St), RF a0 arr y6 → LK13 y1 y2 y3 y4 y5 (absM a0 arr y6) = some (r, w') → K13 a0 y1 y2 y3 y4 y5 y6) : ∀ (x1 : Int32) (x2 : Int32) (x3 : Int32) (x4 : Int32) (x5 : Int32) (σ : St), RF a0 arr σ → g_X12_makesPicks_69 LK3 LK13 x1 x2 x3 x4 x5 (absM a0 arr σ) = some (r, w') → w_X12_makesPicks_69 Q K3 K13 a0 x1 x2 x3 x4 x5 σ := by
  intro x1 x2 x3 x4 x5 σ hR hp
  unfold g_X12_makesPicks_69 at hp
  unfold w_X12_makesPicks_69
  exact gq_X12_makesPicks_70 hq hK3 hK13 _ _ _ _ _ _ _ hR hp
set_option maxRecDepth 100000 in
set_option maxHeartbeats 1000000 in
theorem gq_X12_makesPicks_13 {a0 : Nat} {arr : Nat → Nat} {r : Unit} {w' : MS} {Q : St → Prop} (hq : ∀ (s : St), RF a0 arr s → gret () (absM a0 arr s) = some (r, w') → Q s) {K3 : Nat → Int32 → Int32 → Int32 → Int32 → St → Prop} {LK3 : Int32 → Int32 → Int32 → Int32 → GM (Unit)} (hK3 : ∀ (y1 : Int32) (y2 : Int32) (y3 : Int32) (y4 : Int32) (y5 : St), RF a0 arr y5 → LK3 y1 y2 y3 y4 (absM a0 arr y5) = some (r, w') → K3 a0 y1 y2 y3 y4 y5) : ∀ (f : Nat) (x1 : Int32) (x2 : Int32) (x3 : Int32) (x4 : Int32) (x5 : Int32) (σ : St), RF a0 arr σ → g_X12_makesPicks_13 LK3 f x1 x2 x3 x4 x5 (absM a0 arr σ) = some (r, w') → w_X12_makesPicks_13 Q K3 f a0 x1 x2 x3 x4 x5 σ := by
  intro f
  induction f with
  | zero => intro x1 x2 x3 x4 x5 σ hR hp; cases hp
  | succ f ih =>
    intro x1 x2 x3 x4 x5 σ hR hp
    unfold g_X12_makesPicks_13 at hp
    unfold w_X12_makesPicks_13
    replace hp := grd_some hp
    refine ⟨fun c => ?_, fun c => ?_⟩
    · replace hp := gif_t hp c
      exact hK3 _ _ _ _ _ hR hp
    · replace hp := gif_f hp c
      intro o53 ho53
      rw [hR.ref 41 (by decide)] at ho53
      subst ho53
      refine ⟨arr 41, rfl, ?_⟩
      obtain ⟨hv, hp⟩ := gix_some hp
      refine ⟨by rw [hR.len 41 (by first | decide | assumption)]; exact hv, ?_⟩
      refine ⟨fun c => ?_, fun c => ?_⟩
      · replace hp := gif_f hp c
        exact gq_X12_makesPicks_69 hq hK3 ih _ _ _ _ _ _ hR hp
      · replace hp := gif_t hp c
        intro o78 ho78
        rw [hR.ref 42 (by decide)] at ho78
        subst ho78
        refine ⟨arr 42, rfl, ?_⟩
        obtain ⟨hv, hp⟩ := gix_some hp
        refine ⟨by rw [hR.len 42 (by first | decide | assumption)]; exact hv, ?_⟩
        refine ⟨fun c => ?_, fun c => ?_⟩
        · replace hp := gif_f hp c
          exact gq_X12_makesPicks_69 hq hK3 ih _ _ _ _ _ _ hR hp
        · replace hp := gif_t hp c
          intro o82 ho82
          rw [hR.ref 40 (by decide)] at ho82
          subst ho82
          refine ⟨arr 40, rfl, ?_⟩
          obtain ⟨hv, hp⟩ := gix_some hp
          refine ⟨by rw [hR.len 40 (by first | decide | assumption)]; exact hv, ?_⟩
          refine ⟨fun c => ?_, fun c => ?_⟩
          · replace hp := gif_f hp c
            exact gq_X12_makesPicks_69 hq hK3 ih _ _ _ _ _ _ hR hp
          · replace hp := gif_t hp c
            exact gq_X12_makesPicks_70 hq hK3 ih _ _ _ _ _ _ _ hR hp
set_option maxRecDepth 100000 in
set_option maxHeartbeats 1000000 in
theorem gq_X12_makesPicks_3 {a0 : Nat} {arr : Nat → Nat} {r : Unit} {w' : MS} {Q : St → Prop} (hq : ∀ (s : St), RF a0 arr s → gret () (absM a0 arr s) = some (r, w') → Q s) : ∀ (f : Nat) (x1 : Int32) (x2 : Int32) (x3 : Int32) (x4 : Int32) (σ : St), RF a0 arr σ → g_X12_makesPicks_3 f x1 x2 x3 x4 (absM a0 arr σ) = some (r, w') → w_X12_makesPicks_3 Q  f a0 x1 x2 x3 x4 σ := by
  intro f
  induction f with
  | zero => intro x1 x2 x3 x4 σ hR hp; cases hp
  | succ f ih =>
    intro x1 x2 x3 x4 σ hR hp
    unfold g_X12_makesPicks_3 at hp
    unfold w_X12_makesPicks_3
    refine ⟨fun c => ?_, fun c => ?_⟩
    · replace hp := gif_t hp c
      exact hq _ hR hp
    · replace hp := gif_f hp c
      refine ⟨FU, ?_⟩
      exact gq_X12_makesPicks_13 hq ih FU _ _ _ _ _ _ hR hp
set_option maxRecDepth 100000 in
set_option maxHeartbeats 1000000 in
theorem gq_X12_makesPicks {a0 : Nat} {arr : Nat → Nat} {σ : St} {x1 : Int32} {x2 : Int32} {x3 : Int32} (hR : RF a0 arr σ) {r : Unit} {w' : MS} (hp : g_X12_makesPicks x1 x2 x3 (absM a0 arr σ) = some (r, w')) {Q : St → Prop} (hq : ∀ (s : St), RF a0 arr s → absM a0 arr s = w' → Q s) : w_X12_makesPicks a0 x1 x2 x3 σ Q := by
  replace hq : ∀ (s : St), RF a0 arr s → gret () (absM a0 arr s) = some (r, w') → Q s := fun s hR e => by obtain ⟨rfl, hw⟩ := gret_some e; exact hq s hR hw
  unfold g_X12_makesPicks at hp
  unfold w_X12_makesPicks
  refine ⟨FU, ?_⟩
  exact gq_X12_makesPicks_3 hq FU _ _ _ _ _ hR hp
set_option maxRecDepth 100000 in
set_option maxHeartbeats 1000000 in
theorem gq_X12_moves {a0 : Nat} {arr : Nat → Nat} {σ : St} {x1 : Int32} {x2 : Int32} (hR : RF a0 arr σ) {r : Unit} {w' : MS} (hp : g_X12_moves x1 x2 (absM a0 arr σ) = some (r, w')) {Q : St → Prop} (hq : ∀ (s : St), RF a0 arr s → absM a0 arr s = w' → Q s) : w_X12_moves a0 x1 x2 σ Q := by
  replace hq : ∀ (s : St), RF a0 arr s → gret () (absM a0 arr s) = some (r, w') → Q s := fun s hR e => by obtain ⟨rfl, hw⟩ := gret_some e; exact hq s hR hw
  unfold g_X12_moves at hp
  unfold w_X12_moves
  replace hp := grd_some hp
  intro o51 ho51
  rw [hR.ref 48 (by decide)] at ho51
  subst ho51
  refine ⟨arr 48, rfl, ?_⟩
  obtain ⟨hv, hp⟩ := gix_some hp
  refine ⟨by rw [hR.len 48 (by first | decide | assumption)]; exact hv, ?_⟩
  intro o54 ho54
  rw [hR.ref 47 (by decide)] at ho54
  subst ho54
  refine ⟨arr 47, rfl, ?_⟩
  obtain ⟨hv, hp⟩ := gix_some hp
  refine ⟨by rw [hR.len 47 (by first | decide | assumption)]; exact hv, ?_⟩
  intro o57 ho57
  rw [hR.ref 51 (by decide)] at ho57
  subst ho57
  refine ⟨arr 51, rfl, ?_⟩
  obtain ⟨hv, hp⟩ := gix_some hp
  refine ⟨by rw [hR.len 51 (by first | decide | assumption)]; exact hv, ?_⟩
  obtain ⟨u61, w61, he, hp⟩ := gb_some hp
  refine gq_X12_books hR he (fun s61 hR hw => ?_)
  subst hw
  clear he
  replace hp := grd_some hp
  intro o62 ho62
  rw [hR.ref 49 (by decide)] at ho62
  subst ho62
  refine ⟨arr 49, rfl, ?_⟩
  obtain ⟨hv, hp⟩ := gix_some hp
  refine ⟨by rw [hR.len 49 (by first | decide | assumption)]; exact hv, ?_⟩
  intro o65 ho65
  rw [hR.ref 47 (by decide)] at ho65
  subst ho65
  refine ⟨arr 47, rfl, ?_⟩
  obtain ⟨hv, hp⟩ := gix_some hp
  refine ⟨by rw [hR.len 47 (by first | decide | assumption)]; exact hv, ?_⟩
  intro o68 ho68
  rw [hR.ref 51 (by decide)] at ho68
  subst ho68
  refine ⟨arr 51, rfl, ?_⟩
  obtain ⟨hv, hp⟩ := gix_some hp
  refine ⟨by rw [hR.len 51 (by first | decide | assumption)]; exact hv, ?_⟩
  obtain ⟨u72, w72, he, hp⟩ := gb_some hp
  refine gq_X12_books hR he (fun s72 hR hw => ?_)
  subst hw
  clear he
  replace hp := grd_some hp
  intro s73 hs73
  have h2 := abs_setI (arr := arr) 2 (by decide) hs73
  replace hR := hR.setI hs73
  replace hp := gst_up hp h2
  clear h2 hs73
  obtain ⟨u75, w75, he, hp⟩ := gb_some hp
  refine gq_X12_ends hR he (fun s75 hR hw => ?_)
  subst hw
  clear he
  obtain ⟨u77, w77, he, hp⟩ := gb_some hp
  refine gq_X12_tidies hR he (fun s77 hR hw => ?_)
  subst hw
  clear he
  exact hq _ hR hp
set_option maxRecDepth 100000 in
set_option maxHeartbeats 1000000 in
theorem gq_X12_order_40 {a0 : Nat} {arr : Nat → Nat} {r : Int32} {w' : MS} {Q : Int32 → St → Prop} (hq : ∀ (s : St) (x : Int32), RF a0 arr s → gret x (absM a0 arr s) = some (r, w') → Q x s) : ∀ (x1 : Int32) (x2 : Int32) (x3 : Int32) (xs1 : Int32) (σ : St), RF a0 arr σ → g_X12_order_40 x1 x2 x3 xs1 (absM a0 arr σ) = some (r, w') → w_X12_order_40 Q  a0 x1 x2 x3 a0 xs1 σ := by
  intro x1 x2 x3 xs1 σ hR hp
  unfold g_X12_order_40 at hp
  unfold w_X12_order_40
  obtain ⟨x54, w55, he, hp⟩ := gb_some hp
  refine gq_X12_holds hR he (fun s55 hR hw => ?_)
  subst hw
  clear he
  replace hp := grd_some hp
  refine ⟨fun c => ?_, fun c => ?_⟩
  · replace hp := gif_f hp c
    intro o57 ho57
    rw [hR.ref 28 (by decide)] at ho57
    subst ho57
    refine ⟨arr 28, rfl, ?_⟩
    obtain ⟨hv, hp⟩ := gix_some hp
    refine ⟨by rw [hR.len 28 (by first | decide | assumption)]; exact hv, ?_⟩
    intro s60 hs60
    have h2 := abs_setA hR 28 (by first | decide | assumption) hs60
    replace hR := hR.setA hs60
    replace hp := gst_up hp h2
    clear h2 hs60
    replace hp := grd_some hp
    intro o61 ho61
    rw [hR.ref 29 (by decide)] at ho61
    subst ho61
    refine ⟨arr 29, rfl, ?_⟩
    obtain ⟨hv, hp⟩ := gix_some hp
    refine ⟨by rw [hR.len 29 (by first | decide | assumption)]; exact hv, ?_⟩
    obtain ⟨hv, hp⟩ := gmd_some hp
    refine ⟨of_decide_eq_true hv, ?_⟩
    intro s64 hs64
    have h2 := abs_setA hR 29 (by first | decide | assumption) hs64
    replace hR := hR.setA hs64
    replace hp := gst_up hp h2
    clear h2 hs64
    replace hp := grd_some hp
    intro o66 ho66
    rw [hR.ref 30 (by decide)] at ho66
    subst ho66
    refine ⟨arr 30, rfl, ?_⟩
    obtain ⟨hv, hp⟩ := gix_some hp
    refine ⟨by rw [hR.len 30 (by first | decide | assumption)]; exact hv, ?_⟩
    intro s69 hs69
    have h2 := abs_setA hR 30 (by first | decide | assumption) hs69
    replace hR := hR.setA hs69
    replace hp := gst_up hp h2
    clear h2 hs69
    replace hp := grd_some hp
    intro s70 hs70
    have h2 := abs_setI (arr := arr) 27 (by decide) hs70
    replace hR := hR.setI hs70
    replace hp := gst_up hp h2
    clear h2 hs70
    replace hp := grd_some hp
    exact hq _ _ hR hp
  · replace hp := gif_t hp c
    exact hq _ _ hR hp
set_option maxRecDepth 100000 in
set_option maxHeartbeats 1000000 in
theorem gq_X12_order {a0 : Nat} {arr : Nat → Nat} {σ : St} {x1 : Int32} {x2 : Int32} {x3 : Int32} (hR : RF a0 arr σ) {r : Int32} {w' : MS} (hp : g_X12_order x1 x2 x3 (absM a0 arr σ) = some (r, w')) {Q : Int32 → St → Prop} (hq : ∀ (s : St), RF a0 arr s → absM a0 arr s = w' → Q r s) : w_X12_order a0 x1 x2 x3 σ Q := by
  replace hq : ∀ (s : St) (x : Int32), RF a0 arr s → gret x (absM a0 arr s) = some (r, w') → Q x s := fun s x hR e => by obtain ⟨rfl, hw⟩ := gret_some e; exact hq s hR hw
  unfold g_X12_order at hp
  unfold w_X12_order
  obtain ⟨x51, w52, he, hp⟩ := gb_some hp
  refine gq_X12_isIn hR he (fun s52 hR hw => ?_)
  subst hw
  clear he
  refine ⟨fun c => ?_, fun c => ?_⟩
  · replace hp := gif_t hp c
    exact gq_X12_order_40 hq _ _ _ _ _ hR hp
  · replace hp := gif_f hp c
    obtain ⟨x71, w72, he, hp⟩ := gb_some hp
    refine gq_X12_isIn hR he (fun s72 hR hw => ?_)
    subst hw
    clear he
    replace hp := grd_some hp
    refine ⟨fun c => ?_, fun c => ?_⟩
    · replace hp := gif_f hp c
      refine ⟨fun c => ?_, fun c => ?_⟩
      · replace hp := gif_f hp c
        exact gq_X12_order_40 hq _ _ _ _ _ hR hp
      · replace hp := gif_t hp c
        exact gq_X12_order_40 hq _ _ _ _ _ hR hp
    · replace hp := gif_t hp c
      exact gq_X12_order_40 hq _ _ _ _ _ hR hp
set_option maxRecDepth 100000 in
set_option maxHeartbeats 1000000 in
theorem gq_X12_packs_144 {a0 : Nat} {arr : Nat → Nat} {r : Int32} {w' : MS} {Q : Int32 → St → Prop} (hq : ∀ (s : St) (x : Int32), RF a0 arr s → gret x (absM a0 arr s) = some (r, w') → Q x s) {K33 : Nat → Int32 → Int32 → St → Prop} {LK33 : Int32 → Int32 → GM (Int32)} (hK33 : ∀ (y1 : Int32) (y2 : Int32) (y3 : St), RF a0 arr y3 → LK33 y1 y2 (absM a0 arr y3) = some (r, w') → K33 a0 y1 y2 y3) {K48 : Nat → Int32 → Int32 → Int32 → Int32 → St → Prop} {LK48 : Int32 → Int32 → Int32 → Int32 → GM (Int32)} (hK48 : ∀ (y1 : Int32) (y2 : Int32) (y3 : Int32) (y4 : Int32) (y5 : St), RF a0 arr y5 → LK48 y1 y2 y3 y4 (absM a0 arr y5) = some (r, w') → K48 a0 y1 y2 y3 y4 y5) : ∀ (x2 : Int32) (x3 : Int32) (x4 : Int32) (x5 : Int32) (x6 : Int32) (σ : St), RF a0 arr σ → g_X12_packs_144 LK33 LK48 x2 x3 x4 x5 x6 (absM a0 arr σ) = some (r, w') → w_X12_packs_144 Q K33 K48 a0 x2 x3 x4 x5 x6 σ := by
  intro x2 x3 x4 x5 x6 σ hR hp
  unfold g_X12_packs_144 at hp
  unfold w_X12_packs_144
  replace hp := grd_some hp
  intro o64 ho64
  rw [hR.ref 61 (by decide)] at ho64
  subst ho64
  refine ⟨arr 61, rfl, ?_⟩
  obtain ⟨hv, hp⟩ := gix_some hp
  refine ⟨by rw [hR.len 61 (by first | decide | assumption)]; exact hv, ?_⟩
  intro o67 ho67
  rw [hR.ref 10 (by decide)] at ho67
  subst ho67
  refine ⟨arr 10, rfl, ?_⟩
  obtain ⟨hv, hp⟩ := gix_some hp
  refine ⟨by rw [hR.len 10 (by first | decide | assumption)]; exact hv, ?_⟩
  obtain ⟨hv, hp⟩ := gix_some hp
  refine ⟨by rw [hR.len 61 (by first | decide | assumption)]; exact hv, ?_⟩
  intro s71 hs71
  have h2 := abs_setA hR 61 (by first | decide | assumption) hs71
  replace hR := hR.setA hs71
  replace hp := gst_up hp h2
  clear h2 hs71
  replace hp := grd_some hp
  intro o72 ho72
  rw [hR.ref 62 (by decide)] at ho72
  subst ho72
  refine ⟨arr 62, rfl, ?_⟩
  obtain ⟨hv, hp⟩ := gix_some hp
  refine ⟨by rw [hR.len 62 (by first | decide | assumption)]; exact hv, ?_⟩
  intro o75 ho75
  rw [hR.ref 11 (by decide)] at ho75
  subst ho75
  refine ⟨arr 11, rfl, ?_⟩
  obtain ⟨hv, hp⟩ := gix_some hp
  refine ⟨by rw [hR.len 11 (by first | decide | assumption)]; exact hv, ?_⟩
  obtain ⟨hv, hp⟩ := gix_some hp
  refine ⟨by rw [hR.len 62 (by first | decide | assumption)]; exact hv, ?_⟩
  intro s79 hs79
  have h2 := abs_setA hR 62 (by first | decide | assumption) hs79
  replace hR := hR.setA hs79
  replace hp := gst_up hp h2
  clear h2 hs79
  replace hp := grd_some hp
  intro o80 ho80
  rw [hR.ref 63 (by decide)] at ho80
  subst ho80
  refine ⟨arr 63, rfl, ?_⟩
  obtain ⟨hv, hp⟩ := gix_some hp
  refine ⟨by rw [hR.len 63 (by first | decide | assumption)]; exact hv, ?_⟩
  obtain ⟨hv, hp⟩ := gix_some hp
  refine ⟨by rw [hR.len 63 (by first | decide | assumption)]; exact hv, ?_⟩
  intro s84 hs84
  have h2 := abs_setA hR 63 (by first | decide | assumption) hs84
  replace hR := hR.setA hs84
  replace hp := gst_up hp h2
  clear h2 hs84
  replace hp := grd_some hp
  intro o85 ho85
  rw [hR.ref 64 (by decide)] at ho85
  subst ho85
  refine ⟨arr 64, rfl, ?_⟩
  obtain ⟨hv, hp⟩ := gix_some hp
  refine ⟨by rw [hR.len 64 (by first | decide | assumption)]; exact hv, ?_⟩
  obtain ⟨hv, hp⟩ := gix_some hp
  refine ⟨by rw [hR.len 64 (by first | decide | assumption)]; exact hv, ?_⟩
  intro s89 hs89
  have h2 := abs_setA hR 64 (by first | decide | assumption) hs89
  replace hR := hR.setA hs89
  replace hp := gst_up hp h2
  clear h2 hs89
  exact hK48 _ _ _ _ _ hR hp
set_option maxRecDepth 100000 in
set_option maxHeartbeats 1000000 in
theorem gq_X12_packs_103 {a0 : Nat} {arr : Nat → Nat} {r : Int32} {w' : MS} {Q : Int32 → St → Prop} (hq : ∀ (s : St) (x : Int32), RF a0 arr s → gret x (absM a0 arr s) = some (r, w') → Q x s) {K33 : Nat → Int32 → Int32 → St → Prop} {LK33 : Int32 → Int32 → GM (Int32)} (hK33 : ∀ (y1 : Int32) (y2 : Int32) (y3 : St), RF a0 arr y3 → LK33 y1 y2 (absM a0 arr y3) = some (r, w') → K33 a0 y1 y2 y3) {K48 : Nat → Int32 → Int32 → Int32 → Int32 → St → Prop} {LK48 : Int32 → Int32 → Int32 → Int32 → GM (Int32)} (hK48 : ∀ (y1 : Int32) (y2 : Int32) (y3 : Int32) (y4 : Int32) (y5 : St), RF a0 arr y5 → LK48 y1 y2 y3 y4 (absM a0 arr y5) = some (r, w') → K48 a0 y1 y2 y3 y4 y5) : ∀ (x2 : Int32) (x3 : Int32) (x4 : Int32) (x5 : Int32) (x6 : Int32) (σ : St), RF a0 arr σ → g_X12_packs_103 LK33 LK48 x2 x3 x4 x5 x6 (absM a0 arr σ) = some (r, w') → w_X12_packs_103 Q K33 K48 a0 x2 x3 x4 x5 x6 σ := by
  intro x2 x3 x4 x5 x6 σ hR hp
  unfold g_X12_packs_103 at hp
  unfold w_X12_packs_103
  refine ⟨fun c => ?_, fun c => ?_⟩
  · replace hp := gif_f hp c
    exact gq_X12_packs_144 hq hK33 hK48 _ _ _ _ _ _ hR hp
  · replace hp := gif_t hp c
    intro o90 ho90
    rw [hR.ref 61 (by decide)] at ho90
    subst ho90
    refine ⟨arr 61, rfl, ?_⟩
    obtain ⟨hv, hp⟩ := gix_some hp
    refine ⟨by rw [hR.len 61 (by first | decide | assumption)]; exact hv, ?_⟩
    intro s93 hs93
    have h2 := abs_setA hR 61 (by first | decide | assumption) hs93
    replace hR := hR.setA hs93
    replace hp := gst_up hp h2
    clear h2 hs93
    intro o94 ho94
    rw [hR.ref 62 (by decide)] at ho94
    subst ho94
    refine ⟨arr 62, rfl, ?_⟩
    obtain ⟨hv, hp⟩ := gix_some hp
    refine ⟨by rw [hR.len 62 (by first | decide | assumption)]; exact hv, ?_⟩
    intro s97 hs97
    have h2 := abs_setA hR 62 (by first | decide | assumption) hs97
    replace hR := hR.setA hs97
    replace hp := gst_up hp h2
    clear h2 hs97
    intro o98 ho98
    rw [hR.ref 63 (by decide)] at ho98
    subst ho98
    refine ⟨arr 63, rfl, ?_⟩
    obtain ⟨hv, hp⟩ := gix_some hp
    refine ⟨by rw [hR.len 63 (by first | decide | assumption)]; exact hv, ?_⟩
    intro s101 hs101
    have h2 := abs_setA hR 63 (by first | decide | assumption) hs101
    replace hR := hR.setA hs101
    replace hp := gst_up hp h2
    clear h2 hs101
    intro o102 ho102
    rw [hR.ref 64 (by decide)] at ho102
    subst ho102
    refine ⟨arr 64, rfl, ?_⟩
    obtain ⟨hv, hp⟩ := gix_some hp
    refine ⟨by rw [hR.len 64 (by first | decide | assumption)]; exact hv, ?_⟩
    intro s105 hs105
    have h2 := abs_setA hR 64 (by first | decide | assumption) hs105
    replace hR := hR.setA hs105
    replace hp := gst_up hp h2
    clear h2 hs105
    exact gq_X12_packs_144 hq hK33 hK48 _ _ _ _ _ _ hR hp
set_option maxRecDepth 100000 in
set_option maxHeartbeats 1000000 in
theorem gq_X12_packs_80 {a0 : Nat} {arr : Nat → Nat} {r : Int32} {w' : MS} {Q : Int32 → St → Prop} (hq : ∀ (s : St) (x : Int32), RF a0 arr s → gret x (absM a0 arr s) = some (r, w') → Q x s) {K33 : Nat → Int32 → Int32 → St → Prop} {LK33 : Int32 → Int32 → GM (Int32)} (hK33 : ∀ (y1 : Int32) (y2 : Int32) (y3 : St), RF a0 arr y3 → LK33 y1 y2 (absM a0 arr y3) = some (r, w') → K33 a0 y1 y2 y3) {K48 : Nat → Int32 → Int32 → Int32 → Int32 → St → Prop} {LK48 : Int32 → Int32 → Int32 → Int32 → GM (Int32)} (hK48 : ∀ (y1 : Int32) (y2 : Int32) (y3 : Int32) (y4 : Int32) (y5 : St), RF a0 arr y5 → LK48 y1 y2 y3 y4 (absM a0 arr y5) = some (r, w') → K48 a0 y1 y2 y3 y4 y5) : ∀ (f : Nat) (x2 : Int32) (x3 : Int32) (x4 : Int32) (x5 : Int32) (x6 : Int32) (σ : St), RF a0 arr σ → g_X12_packs_80 LK33 LK48 f x2 x3 x4 x5 x6 (absM a0 arr σ) = some (r, w') → w_X12_packs_80 Q K33 K48 f a0 x2 x3 x4 x5 x6 σ := by
  intro f
  induction f with
  | zero => intro x2 x3 x4 x5 x6 σ hR hp; cases hp
  | succ f ih =>
    intro x2 x3 x4 x5 x6 σ hR hp
    unfold g_X12_packs_80 at hp
    unfold w_X12_packs_80
    refine ⟨fun c => ?_, fun c => ?_⟩
    · replace hp := gif_t hp c
      exact gq_X12_packs_103 hq hK33 hK48 _ _ _ _ _ _ hR hp
    · replace hp := gif_f hp c
      obtain ⟨x106, w107, he, hp⟩ := gb_some hp
      refine gq_X12_fitsInto hR he (fun s107 hR hw => ?_)
      subst hw
      clear he
      refine ⟨fun c => ?_, fun c => ?_⟩
      · replace hp := gif_f hp c
        exact gq_X12_packs_103 hq hK33 hK48 _ _ _ _ _ _ hR hp
      · replace hp := gif_t hp c
        exact ih _ _ _ _ _ _ hR hp
set_option maxRecDepth 100000 in
set_option maxHeartbeats 1000000 in
theorem gq_X12_packs_48 {a0 : Nat} {arr : Nat → Nat} {r : Int32} {w' : MS} {Q : Int32 → St → Prop} (hq : ∀ (s : St) (x : Int32), RF a0 arr s → gret x (absM a0 arr s) = some (r, w') → Q x s) {K33 : Nat → Int32 → Int32 → St → Prop} {LK33 : Int32 → Int32 → GM (Int32)} (hK33 : ∀ (y1 : Int32) (y2 : Int32) (y3 : St), RF a0 arr y3 → LK33 y1 y2 (absM a0 arr y3) = some (r, w') → K33 a0 y1 y2 y3) : ∀ (f : Nat) (x2 : Int32) (x3 : Int32) (x4 : Int32) (x5 : Int32) (σ : St), RF a0 arr σ → g_X12_packs_48 LK33 f x2 x3 x4 x5 (absM a0 arr σ) = some (r, w') → w_X12_packs_48 Q K33 f a0 x2 x3 x4 x5 σ := by
  intro f
  induction f with
  | zero => intro x2 x3 x4 x5 σ hR hp; cases hp
  | succ f ih =>
    intro x2 x3 x4 x5 σ hR hp
    unfold g_X12_packs_48 at hp
    unfold w_X12_packs_48
    replace hp := grd_some hp
    intro o54 ho54
    rw [hR.ref 60 (by decide)] at ho54
    subst ho54
    refine ⟨arr 60, rfl, ?_⟩
    obtain ⟨hv, hp⟩ := gix_some hp
    refine ⟨by rw [hR.len 60 (by first | decide | assumption)]; exact hv, ?_⟩
    refine ⟨fun c => ?_, fun c => ?_⟩
    · replace hp := gif_t hp c
      exact hK33 _ _ _ hR hp
    · replace hp := gif_f hp c
      intro o58 ho58
      rw [hR.ref 10 (by decide)] at ho58
      subst ho58
      refine ⟨arr 10, rfl, ?_⟩
      obtain ⟨hv, hp⟩ := gix_some hp
      refine ⟨by rw [hR.len 10 (by first | decide | assumption)]; exact hv, ?_⟩
      refine ⟨fun c => ?_, fun c => ?_⟩
      · replace hp := gif_f hp c
        exact hK33 _ _ _ hR hp
      · replace hp := gif_t hp c
        refine ⟨FU, ?_⟩
        exact gq_X12_packs_80 hq hK33 ih FU _ _ _ _ _ _ hR hp
set_option maxRecDepth 100000 in
set_option maxHeartbeats 1000000 in
theorem gq_X12_packs_33 {a0 : Nat} {arr : Nat → Nat} {r : Int32} {w' : MS} {Q : Int32 → St → Prop} (hq : ∀ (s : St) (x : Int32), RF a0 arr s → gret x (absM a0 arr s) = some (r, w') → Q x s) : ∀ (f : Nat) (x2 : Int32) (x3 : Int32) (σ : St), RF a0 arr σ → g_X12_packs_33 f x2 x3 (absM a0 arr σ) = some (r, w') → w_X12_packs_33 Q  f a0 x2 x3 σ := by
  intro f
  induction f with
  | zero => intro x2 x3 σ hR hp; cases hp
  | succ f ih =>
    intro x2 x3 σ hR hp
    unfold g_X12_packs_33 at hp
    unfold w_X12_packs_33
    refine ⟨fun c => ?_, fun c => ?_⟩
    · replace hp := gif_t hp c
      exact hq _ _ hR hp
    · replace hp := gif_f hp c
      intro x53 hx53
      obtain ⟨yx53, ex53, hp⟩ := gbo_some hp
      obtain rfl : yx53 = x53 := ex53.trans hx53.symm
      refine ⟨FU, ?_⟩
      exact gq_X12_packs_48 hq ih FU _ _ _ _ _ hR hp
set_option maxRecDepth 100000 in
set_option maxHeartbeats 1000000 in
theorem gq_X12_packs_4 {a0 : Nat} {arr : Nat → Nat} {r : Int32} {w' : MS} {Q : Int32 → St → Prop} (hq : ∀ (s : St) (x : Int32), RF a0 arr s → gret x (absM a0 arr s) = some (r, w') → Q x s) : ∀ (f : Nat) (x1 : Int32) (x2 : Int32) (x3 : Int32) (σ : St), RF a0 arr σ → g_X12_packs_4 f x1 x2 x3 (absM a0 arr σ) = some (r, w') → w_X12_packs_4 Q  f a0 x1 x2 x3 σ := by
  intro f
  induction f with
  | zero => intro x1 x2 x3 σ hR hp; cases hp
  | succ f ih =>
    intro x1 x2 x3 σ hR hp
    unfold g_X12_packs_4 at hp
    unfold w_X12_packs_4
    refine ⟨fun c => ?_, fun c => ?_⟩
    · replace hp := gif_t hp c
      refine ⟨FU, ?_⟩
      exact gq_X12_packs_33 hq FU _ _ _ hR hp
    · replace hp := gif_f hp c
      intro o112 ho112
      rw [hR.ref 60 (by decide)] at ho112
      subst ho112
      obtain ⟨x113, w114, he, hp⟩ := gb_some hp
      refine gq_X12_itemIn hR he (fun s114 hR hw => ?_)
      subst hw
      clear he
      refine ⟨arr 60, rfl, ?_⟩
      obtain ⟨hv, hp⟩ := gix_some hp
      refine ⟨by rw [hR.len 60 (by first | decide | assumption)]; exact hv, ?_⟩
      intro s117 hs117
      have h2 := abs_setA hR 60 (by first | decide | assumption) hs117
      replace hR := hR.setA hs117
      replace hp := gst_up hp h2
      clear h2 hs117
      exact ih _ _ _ _ hR hp
set_option maxRecDepth 100000 in
set_option maxHeartbeats 1000000 in
theorem gq_X12_packs {a0 : Nat} {arr : Nat → Nat} {σ : St} {x1 : Int32} (hR : RF a0 arr σ) {r : Int32} {w' : MS} (hp : g_X12_packs x1 (absM a0 arr σ) = some (r, w')) {Q : Int32 → St → Prop} (hq : ∀ (s : St), RF a0 arr s → absM a0 arr s = w' → Q r s) : w_X12_packs a0 x1 σ Q := by
  replace hq : ∀ (s : St) (x : Int32), RF a0 arr s → gret x (absM a0 arr s) = some (r, w') → Q x s := fun s x hR e => by obtain ⟨rfl, hw⟩ := gret_some e; exact hq s hR hw
  unfold g_X12_packs at hp
  unfold w_X12_packs
  refine ⟨FU, ?_⟩
  exact gq_X12_packs_4 hq FU _ _ _ _ hR hp
set_option maxRecDepth 100000 in
set_option maxHeartbeats 1000000 in
theorem gq_X12_picks_4 {a0 : Nat} {arr : Nat → Nat} {r : Int32} {w' : MS} {Q : Int32 → St → Prop} (hq : ∀ (s : St) (x : Int32), RF a0 arr s → gret x (absM a0 arr s) = some (r, w') → Q x s) : ∀ (f : Nat) (x1 : Int32) (x2 : Int32) (x3 : Int32) (σ : St), RF a0 arr σ → g_X12_picks_4 f x1 x2 x3 (absM a0 arr σ) = some (r, w') → w_X12_picks_4 Q  f a0 x1 x2 x3 σ := by
  intro f
  induction f with
  | zero => intro x1 x2 x3 σ hR hp; cases hp
  | succ f ih =>
    intro x1 x2 x3 σ hR hp
    unfold g_X12_picks_4 at hp
    unfold w_X12_picks_4
    replace hp := grd_some hp
    refine ⟨fun c => ?_, fun c => ?_⟩
    · replace hp := gif_t hp c
      exact hq _ _ hR hp
    · replace hp := gif_f hp c
      obtain ⟨x52, w53, he, hp⟩ := gb_some hp
      refine gq_X12_isFor hR he (fun s53 hR hw => ?_)
      subst hw
      clear he
      refine ⟨fun c => ?_, fun c => ?_⟩
      · replace hp := gif_t hp c
        intro x55 hx55
        obtain ⟨yx55, ex55, hp⟩ := gbo_some hp
        obtain rfl : yx55 = x55 := ex55.trans hx55.symm
        exact ih _ _ _ _ hR hp
      · replace hp := gif_f hp c
        intro x56 hx56
        obtain ⟨yx56, ex56, hp⟩ := gbo_some hp
        obtain rfl : yx56 = x56 := ex56.trans hx56.symm
        exact ih _ _ _ _ hR hp
set_option maxRecDepth 100000 in
set_option maxHeartbeats 1000000 in
theorem gq_X12_picks {a0 : Nat} {arr : Nat → Nat} {σ : St} {x1 : Int32} (hR : RF a0 arr σ) {r : Int32} {w' : MS} (hp : g_X12_picks x1 (absM a0 arr σ) = some (r, w')) {Q : Int32 → St → Prop} (hq : ∀ (s : St), RF a0 arr s → absM a0 arr s = w' → Q r s) : w_X12_picks a0 x1 σ Q := by
  replace hq : ∀ (s : St) (x : Int32), RF a0 arr s → gret x (absM a0 arr s) = some (r, w') → Q x s := fun s x hR e => by obtain ⟨rfl, hw⟩ := gret_some e; exact hq s hR hw
  unfold g_X12_picks at hp
  unfold w_X12_picks
  refine ⟨FU, ?_⟩
  exact gq_X12_picks_4 hq FU _ _ _ _ hR hp
set_option maxRecDepth 100000 in
set_option maxHeartbeats 1000000 in
theorem gq_X12_roomHeld_4 {a0 : Nat} {arr : Nat → Nat} {r : Int32} {w' : MS} {Q : Int32 → St → Prop} (hq : ∀ (s : St) (x : Int32), RF a0 arr s → gret x (absM a0 arr s) = some (r, w') → Q x s) : ∀ (f : Nat) (x1 : Int32) (x2 : Int32) (x3 : Int32) (σ : St), RF a0 arr σ → g_X12_roomHeld_4 f x1 x2 x3 (absM a0 arr σ) = some (r, w') → w_X12_roomHeld_4 Q  f a0 x1 x2 x3 σ := by
  intro f
  induction f with
  | zero => intro x1 x2 x3 σ hR hp; cases hp
  | succ f ih =>
    intro x1 x2 x3 σ hR hp
    unfold g_X12_roomHeld_4 at hp
    unfold w_X12_roomHeld_4
    replace hp := grd_some hp
    refine ⟨fun c => ?_, fun c => ?_⟩
    · replace hp := gif_t hp c
      exact hq _ _ hR hp
    · replace hp := gif_f hp c
      obtain ⟨x52, w53, he, hp⟩ := gb_some hp
      refine gq_X12_isOn hR he (fun s53 hR hw => ?_)
      subst hw
      clear he
      replace hp := grd_some hp
      refine ⟨fun c => ?_, fun c => ?_⟩
      · replace hp := gif_t hp c
        intro x55 hx55
        obtain ⟨yx55, ex55, hp⟩ := gbo_some hp
        obtain rfl : yx55 = x55 := ex55.trans hx55.symm
        exact ih _ _ _ _ hR hp
      · replace hp := gif_f hp c
        intro o56 ho56
        rw [hR.ref 46 (by decide)] at ho56
        subst ho56
        refine ⟨arr 46, rfl, ?_⟩
        obtain ⟨hv, hp⟩ := gix_some hp
        refine ⟨by rw [hR.len 46 (by first | decide | assumption)]; exact hv, ?_⟩
        refine ⟨fun c => ?_, fun c => ?_⟩
        · replace hp := gif_t hp c
          intro x60 hx60
          obtain ⟨yx60, ex60, hp⟩ := gbo_some hp
          obtain rfl : yx60 = x60 := ex60.trans hx60.symm
          exact ih _ _ _ _ hR hp
        · replace hp := gif_f hp c
          intro o61 ho61
          rw [hR.ref 49 (by decide)] at ho61
          subst ho61
          refine ⟨arr 49, rfl, ?_⟩
          obtain ⟨hv, hp⟩ := gix_some hp
          refine ⟨by rw [hR.len 49 (by first | decide | assumption)]; exact hv, ?_⟩
          refine ⟨fun c => ?_, fun c => ?_⟩
          · replace hp := gif_f hp c
            intro x65 hx65
            obtain ⟨yx65, ex65, hp⟩ := gbo_some hp
            obtain rfl : yx65 = x65 := ex65.trans hx65.symm
            exact ih _ _ _ _ hR hp
          · replace hp := gif_t hp c
            intro o66 ho66
            rw [hR.ref 51 (by decide)] at ho66
            subst ho66
            refine ⟨arr 51, rfl, ?_⟩
            obtain ⟨hv, hp⟩ := gix_some hp
            refine ⟨by rw [hR.len 51 (by first | decide | assumption)]; exact hv, ?_⟩
            intro o69 ho69
            rw [hR.ref 10 (by decide)] at ho69
            subst ho69
            intro o70 ho70
            rw [hR.ref 16 (by decide)] at ho70
            subst ho70
            intro o71 ho71
            rw [hR.ref 47 (by decide)] at ho71
            subst ho71
            refine ⟨arr 47, rfl, ?_⟩
            obtain ⟨hv, hp⟩ := gix_some hp
            refine ⟨by rw [hR.len 47 (by first | decide | assumption)]; exact hv, ?_⟩
            refine ⟨arr 16, rfl, ?_⟩
            obtain ⟨hv, hp⟩ := gix_some hp
            refine ⟨by rw [hR.len 16 (by first | decide | assumption)]; exact hv, ?_⟩
            refine ⟨arr 10, rfl, ?_⟩
            obtain ⟨hv, hp⟩ := gix_some hp
            refine ⟨by rw [hR.len 10 (by first | decide | assumption)]; exact hv, ?_⟩
            intro x78 hx78
            obtain ⟨yx78, ex78, hp⟩ := gbo_some hp
            obtain rfl : yx78 = x78 := ex78.trans hx78.symm
            exact ih _ _ _ _ hR hp
set_option maxRecDepth 100000 in
set_option maxHeartbeats 1000000 in
theorem gq_X12_roomHeld {a0 : Nat} {arr : Nat → Nat} {σ : St} {x1 : Int32} (hR : RF a0 arr σ) {r : Int32} {w' : MS} (hp : g_X12_roomHeld x1 (absM a0 arr σ) = some (r, w')) {Q : Int32 → St → Prop} (hq : ∀ (s : St), RF a0 arr s → absM a0 arr s = w' → Q r s) : w_X12_roomHeld a0 x1 σ Q := by
  replace hq : ∀ (s : St) (x : Int32), RF a0 arr s → gret x (absM a0 arr s) = some (r, w') → Q x s := fun s x hR e => by obtain ⟨rfl, hw⟩ := gret_some e; exact hq s hR hw
  unfold g_X12_roomHeld at hp
  unfold w_X12_roomHeld
  refine ⟨FU, ?_⟩
  exact gq_X12_roomHeld_4 hq FU _ _ _ _ hR hp
set_option maxRecDepth 100000 in
set_option maxHeartbeats 1000000 in
theorem gq_X12_standsIn_18 {a0 : Nat} {arr : Nat → Nat} {r : Int32} {w' : MS} {Q : Int32 → St → Prop} (hq : ∀ (s : St) (x : Int32), RF a0 arr s → gret x (absM a0 arr s) = some (r, w') → Q x s) : ∀ (f : Nat) (x1 : Int32) (x2 : Int32) (x3 : Int32) (x4 : Int32) (σ : St), RF a0 arr σ → g_X12_standsIn_18 f x1 x2 x3 x4 (absM a0 arr σ) = some (r, w') → w_X12_standsIn_18 Q  f a0 x1 x2 x3 x4 σ := by
  intro f
  induction f with
  | zero => intro x1 x2 x3 x4 σ hR hp; cases hp
  | succ f ih =>
    intro x1 x2 x3 x4 σ hR hp
    unfold g_X12_standsIn_18 at hp
    unfold w_X12_standsIn_18
    replace hp := grd_some hp
    refine ⟨fun c => ?_, fun c => ?_⟩
    · replace hp := gif_t hp c
      obtain ⟨hv, hp⟩ := gmd_some hp
      refine ⟨of_decide_eq_true hv, ?_⟩
      exact hq _ _ hR hp
    · replace hp := gif_f hp c
      refine ⟨fun c => ?_, fun c => ?_⟩
      · replace hp := gif_f hp c
        exact ih _ _ _ _ _ hR hp
      · replace hp := gif_t hp c
        obtain ⟨x56, w57, he, hp⟩ := gb_some hp
        refine gq_X12_isOn hR he (fun s57 hR hw => ?_)
        subst hw
        clear he
        replace hp := grd_some hp
        refine ⟨fun c => ?_, fun c => ?_⟩
        · replace hp := gif_t hp c
          exact ih _ _ _ _ _ hR hp
        · replace hp := gif_f hp c
          intro o59 ho59
          rw [hR.ref 46 (by decide)] at ho59
          subst ho59
          refine ⟨arr 46, rfl, ?_⟩
          obtain ⟨hv, hp⟩ := gix_some hp
          refine ⟨by rw [hR.len 46 (by first | decide | assumption)]; exact hv, ?_⟩
          refine ⟨fun c => ?_, fun c => ?_⟩
          · replace hp := gif_t hp c
            exact ih _ _ _ _ _ hR hp
          · replace hp := gif_f hp c
            intro o63 ho63
            rw [hR.ref 49 (by decide)] at ho63
            subst ho63
            refine ⟨arr 49, rfl, ?_⟩
            obtain ⟨hv, hp⟩ := gix_some hp
            refine ⟨by rw [hR.len 49 (by first | decide | assumption)]; exact hv, ?_⟩
            refine ⟨fun c => ?_, fun c => ?_⟩
            · replace hp := gif_f hp c
              exact ih _ _ _ _ _ hR hp
            · replace hp := gif_t hp c
              intro o67 ho67
              rw [hR.ref 16 (by decide)] at ho67
              subst ho67
              intro o68 ho68
              rw [hR.ref 47 (by decide)] at ho68
              subst ho68
              refine ⟨arr 47, rfl, ?_⟩
              obtain ⟨hv, hp⟩ := gix_some hp
              refine ⟨by rw [hR.len 47 (by first | decide | assumption)]; exact hv, ?_⟩
              refine ⟨arr 16, rfl, ?_⟩
              obtain ⟨hv, hp⟩ := gix_some hp
              refine ⟨by rw [hR.len 16 (by first | decide | assumption)]; exact hv, ?_⟩
              refine ⟨fun c => ?_, fun c => ?_⟩
              · replace hp := gif_f hp c
                exact ih _ _ _ _ _ hR hp
              · replace hp := gif_t hp c
                exact ih _ _ _ _ _ hR hp
set_option maxRecDepth 100000 in
set_option maxHeartbeats 1000000 in
theorem gq_X12_standsIn {a0 : Nat} {arr : Nat → Nat} {σ : St} {x1 : Int32} {x2 : Int32} (hR : RF a0 arr σ) {r : Int32} {w' : MS} (hp : g_X12_standsIn x1 x2 (absM a0 arr σ) = some (r, w')) {Q : Int32 → St → Prop} (hq : ∀ (s : St), RF a0 arr s → absM a0 arr s = w' → Q r s) : w_X12_standsIn a0 x1 x2 σ Q := by
  replace hq : ∀ (s : St) (x : Int32), RF a0 arr s → gret x (absM a0 arr s) = some (r, w') → Q x s := fun s x hR e => by obtain ⟨rfl, hw⟩ := gret_some e; exact hq s hR hw
  unfold g_X12_standsIn at hp
  unfold w_X12_standsIn
  obtain ⟨x51, w52, he, hp⟩ := gb_some hp
  refine gq_X12_itemIn hR he (fun s52 hR hw => ?_)
  subst hw
  clear he
  refine ⟨fun c => ?_, fun c => ?_⟩
  · replace hp := gif_t hp c
    refine ⟨FU, ?_⟩
    exact gq_X12_standsIn_18 hq FU _ _ _ _ _ hR hp
  · replace hp := gif_f hp c
    refine ⟨FU, ?_⟩
    exact gq_X12_standsIn_18 hq FU _ _ _ _ _ hR hp
set_option maxRecDepth 100000 in
set_option maxHeartbeats 1000000 in
theorem gq_X12_bar_20 {a0 : Nat} {arr : Nat → Nat} {r : Int32} {w' : MS} {Q : Int32 → St → Prop} (hq : ∀ (s : St) (x : Int32), RF a0 arr s → gret x (absM a0 arr s) = some (r, w') → Q x s) : ∀ (x1 : Int32) (x2 : Int32) (x3 : Int32) (xs1 : Int32) (σ : St), RF a0 arr σ → g_X12_bar_20 x1 x2 x3 xs1 (absM a0 arr σ) = some (r, w') → w_X12_bar_20 Q  a0 x1 x2 x3 a0 xs1 σ := by
  intro x1 x2 x3 xs1 σ hR hp
  unfold g_X12_bar_20 at hp
  unfold w_X12_bar_20
  obtain ⟨x54, w55, he, hp⟩ := gb_some hp
  refine gq_X12_holds hR he (fun s55 hR hw => ?_)
  subst hw
  clear he
  replace hp := grd_some hp
  refine ⟨fun c => ?_, fun c => ?_⟩
  · replace hp := gif_f hp c
    intro o57 ho57
    rw [hR.ref 14 (by decide)] at ho57
    subst ho57
    refine ⟨arr 14, rfl, ?_⟩
    obtain ⟨hv, hp⟩ := gix_some hp
    refine ⟨by rw [hR.len 14 (by first | decide | assumption)]; exact hv, ?_⟩
    intro x60 hx60
    obtain ⟨yx60, ex60, hp⟩ := gbo_some hp
    obtain rfl : yx60 = x60 := ex60.trans hx60.symm
    intro o61 ho61
    rw [hR.ref 14 (by decide)] at ho61
    subst ho61
    refine ⟨arr 14, rfl, ?_⟩
    obtain ⟨hv, hp⟩ := gix_some hp
    refine ⟨by rw [hR.len 14 (by first | decide | assumption)]; exact hv, ?_⟩
    obtain ⟨hv, hp⟩ := gmd_some hp
    refine ⟨of_decide_eq_true hv, ?_⟩
    intro s64 hs64
    have h2 := abs_setA hR 14 (by first | decide | assumption) hs64
    replace hR := hR.setA hs64
    replace hp := gst_up hp h2
    clear h2 hs64
    intro o66 ho66
    rw [hR.ref 14 (by decide)] at ho66
    subst ho66
    refine ⟨arr 14, rfl, ?_⟩
    obtain ⟨hv, hp⟩ := gix_some hp
    refine ⟨by rw [hR.len 14 (by first | decide | assumption)]; exact hv, ?_⟩
    obtain ⟨hv, hp⟩ := gmd_some hp
    refine ⟨of_decide_eq_true hv, ?_⟩
    intro s69 hs69
    have h2 := abs_setA hR 14 (by first | decide | assumption) hs69
    replace hR := hR.setA hs69
    replace hp := gst_up hp h2
    clear h2 hs69
    obtain ⟨hv, hp⟩ := gmd_some hp
    refine ⟨of_decide_eq_true hv, ?_⟩
    exact hq _ _ hR hp
  · replace hp := gif_t hp c
    exact hq _ _ hR hp
set_option maxRecDepth 100000 in
set_option maxHeartbeats 1000000 in
theorem gq_X12_bar_19 {a0 : Nat} {arr : Nat → Nat} {r : Int32} {w' : MS} {Q : Int32 → St → Prop} (hq : ∀ (s : St) (x : Int32), RF a0 arr s → gret x (absM a0 arr s) = some (r, w') → Q x s) : ∀ (x1 : Int32) (x2 : Int32) (x3 : Int32) (σ : St), RF a0 arr σ → g_X12_bar_19 x1 x2 x3 (absM a0 arr σ) = some (r, w') → w_X12_bar_19 Q  a0 x1 x2 x3 a0 σ := by
  intro x1 x2 x3 σ hR hp
  unfold g_X12_bar_19 at hp
  unfold w_X12_bar_19
  exact gq_X12_bar_20 hq _ _ _ _ _ hR hp
set_option maxRecDepth 100000 in
set_option maxHeartbeats 1000000 in
theorem gq_X12_bar {a0 : Nat} {arr : Nat → Nat} {σ : St} {x1 : Int32} {x2 : Int32} {x3 : Int32} (hR : RF a0 arr σ) {r : Int32} {w' : MS} (hp : g_X12_bar x1 x2 x3 (absM a0 arr σ) = some (r, w')) {Q : Int32 → St → Prop} (hq : ∀ (s : St), RF a0 arr s → absM a0 arr s = w' → Q r s) : w_X12_bar a0 x1 x2 x3 σ Q := by
  replace hq : ∀ (s : St) (x : Int32), RF a0 arr s → gret x (absM a0 arr s) = some (r, w') → Q x s := fun s x hR e => by obtain ⟨rfl, hw⟩ := gret_some e; exact hq s hR hw
  unfold g_X12_bar at hp
  unfold w_X12_bar
  obtain ⟨x51, w52, he, hp⟩ := gb_some hp
  refine gq_X12_isGroup hR he (fun s52 hR hw => ?_)
  subst hw
  clear he
  refine ⟨fun c => ?_, fun c => ?_⟩
  · replace hp := gif_t hp c
    exact gq_X12_bar_19 hq _ _ _ _ hR hp
  · replace hp := gif_f hp c
    obtain ⟨x71, w72, he, hp⟩ := gb_some hp
    refine gq_X12_isGroup hR he (fun s72 hR hw => ?_)
    subst hw
    clear he
    refine ⟨fun c => ?_, fun c => ?_⟩
    · replace hp := gif_t hp c
      exact gq_X12_bar_19 hq _ _ _ _ hR hp
    · replace hp := gif_f hp c
      exact gq_X12_bar_20 hq _ _ _ _ _ hR hp
set_option maxRecDepth 100000 in
set_option maxHeartbeats 1000000 in
theorem gq_X12_boxesOf {a0 : Nat} {arr : Nat → Nat} {σ : St} {x1 : Int32} (hR : RF a0 arr σ) {r : Int32} {w' : MS} (hp : g_X12_boxesOf x1 (absM a0 arr σ) = some (r, w')) {Q : Int32 → St → Prop} (hq : ∀ (s : St), RF a0 arr s → absM a0 arr s = w' → Q r s) : w_X12_boxesOf a0 x1 σ Q := by
  replace hq : ∀ (s : St) (x : Int32), RF a0 arr s → gret x (absM a0 arr s) = some (r, w') → Q x s := fun s x hR e => by obtain ⟨rfl, hw⟩ := gret_some e; exact hq s hR hw
  unfold g_X12_boxesOf at hp
  unfold w_X12_boxesOf
  replace hp := grd_some hp
  intro o51 ho51
  rw [hR.ref 32 (by decide)] at ho51
  subst ho51
  refine ⟨arr 32, rfl, ?_⟩
  obtain ⟨hv, hp⟩ := gix_some hp
  refine ⟨by rw [hR.len 32 (by first | decide | assumption)]; exact hv, ?_⟩
  refine ⟨fun c => ?_, fun c => ?_⟩
  · replace hp := gif_t hp c
    obtain ⟨x55, w56, he, hp⟩ := gb_some hp
    refine gq_X12_packs hR he (fun s56 hR hw => ?_)
    subst hw
    clear he
    exact hq _ _ hR hp
  · replace hp := gif_f hp c
    intro o57 ho57
    rw [hR.ref 35 (by decide)] at ho57
    subst ho57
    refine ⟨arr 35, rfl, ?_⟩
    obtain ⟨hv, hp⟩ := gix_some hp
    refine ⟨by rw [hR.len 35 (by first | decide | assumption)]; exact hv, ?_⟩
    exact hq _ _ hR hp
set_option maxRecDepth 100000 in
set_option maxHeartbeats 1000000 in
theorem gq_X12_close_29 {a0 : Nat} {arr : Nat → Nat} {r : Int32} {w' : MS} {Q : Int32 → St → Prop} (hq : ∀ (s : St) (x : Int32), RF a0 arr s → gret x (absM a0 arr s) = some (r, w') → Q x s) : ∀ (x1 : Int32) (xs1 : Int32) (σ : St), RF a0 arr σ → g_X12_close_29 x1 xs1 (absM a0 arr σ) = some (r, w') → w_X12_close_29 Q  a0 x1 a0 xs1 σ := by
  intro x1 xs1 σ hR hp
  unfold g_X12_close_29 at hp
  unfold w_X12_close_29
  obtain ⟨x58, w59, he, hp⟩ := gb_some hp
  refine gq_X12_holds hR he (fun s59 hR hw => ?_)
  subst hw
  clear he
  refine ⟨fun c => ?_, fun c => ?_⟩
  · replace hp := gif_f hp c
    intro o61 ho61
    rw [hR.ref 25 (by decide)] at ho61
    subst ho61
    refine ⟨arr 25, rfl, ?_⟩
    obtain ⟨hv, hp⟩ := gix_some hp
    refine ⟨by rw [hR.len 25 (by first | decide | assumption)]; exact hv, ?_⟩
    intro s64 hs64
    have h2 := abs_setA hR 25 (by first | decide | assumption) hs64
    replace hR := hR.setA hs64
    replace hp := gst_up hp h2
    clear h2 hs64
    obtain ⟨x65, w66, he, hp⟩ := gb_some hp
    refine gq_X12_cameOf hR he (fun s66 hR hw => ?_)
    subst hw
    clear he
    replace hp := grd_some hp
    intro o67 ho67
    rw [hR.ref 24 (by decide)] at ho67
    subst ho67
    refine ⟨arr 24, rfl, ?_⟩
    obtain ⟨hv, hp⟩ := gix_some hp
    refine ⟨by rw [hR.len 24 (by first | decide | assumption)]; exact hv, ?_⟩
    exact hq _ _ hR hp
  · replace hp := gif_t hp c
    exact hq _ _ hR hp
set_option maxRecDepth 100000 in
set_option maxHeartbeats 1000000 in
theorem gq_X12_close {a0 : Nat} {arr : Nat → Nat} {σ : St} {x1 : Int32} (hR : RF a0 arr σ) {r : Int32} {w' : MS} (hp : g_X12_close x1 (absM a0 arr σ) = some (r, w')) {Q : Int32 → St → Prop} (hq : ∀ (s : St), RF a0 arr s → absM a0 arr s = w' → Q r s) : w_X12_close a0 x1 σ Q := by
  replace hq : ∀ (s : St) (x : Int32), RF a0 arr s → gret x (absM a0 arr s) = some (r, w') → Q x s := fun s x hR e => by obtain ⟨rfl, hw⟩ := gret_some e; exact hq s hR hw
  unfold g_X12_close at hp
  unfold w_X12_close
  obtain ⟨x51, w52, he, hp⟩ := gb_some hp
  refine gq_X12_isNotice hR he (fun s52 hR hw => ?_)
  subst hw
  clear he
  replace hp := grd_some hp
  refine ⟨fun c => ?_, fun c => ?_⟩
  · replace hp := gif_f hp c
    intro o54 ho54
    rw [hR.ref 25 (by decide)] at ho54
    subst ho54
    refine ⟨arr 25, rfl, ?_⟩
    obtain ⟨hv, hp⟩ := gix_some hp
    refine ⟨by rw [hR.len 25 (by first | decide | assumption)]; exact hv, ?_⟩
    refine ⟨fun c => ?_, fun c => ?_⟩
    · replace hp := gif_t hp c
      exact gq_X12_close_29 hq _ _ _ hR hp
    · replace hp := gif_f hp c
      exact gq_X12_close_29 hq _ _ _ hR hp
  · replace hp := gif_t hp c
    exact gq_X12_close_29 hq _ _ _ hR hp
set_option maxRecDepth 100000 in
set_option maxHeartbeats 1000000 in
theorem gq_X12_comeBack_64 {a0 : Nat} {arr : Nat → Nat} {r : Int32} {w' : MS} {Q : Int32 → St → Prop} (hq : ∀ (s : St) (x : Int32), RF a0 arr s → gret x (absM a0 arr s) = some (r, w') → Q x s) : ∀ (x1 : Int32) (x2 : Int32) (x3 : Int32) (xs1 : Int32) (σ : St), RF a0 arr σ → g_X12_comeBack_64 x1 x2 x3 xs1 (absM a0 arr σ) = some (r, w') → w_X12_comeBack_64 Q  a0 x1 x2 x3 a0 xs1 σ := by
  intro x1 x2 x3 xs1 σ hR hp
  unfold g_X12_comeBack_64 at hp
  unfold w_X12_comeBack_64
  obtain ⟨x62, w63, he, hp⟩ := gb_some hp
  refine gq_X12_holds hR he (fun s63 hR hw => ?_)
  subst hw
  clear he
  replace hp := grd_some hp
  refine ⟨fun c => ?_, fun c => ?_⟩
  · replace hp := gif_f hp c
    intro o65 ho65
    rw [hR.ref 33 (by decide)] at ho65
    subst ho65
    intro x66 hx66
    obtain ⟨yx66, ex66, hp⟩ := gbo_some hp
    obtain rfl : yx66 = x66 := ex66.trans hx66.symm
    refine ⟨arr 33, rfl, ?_⟩
    obtain ⟨hv, hp⟩ := gix_some hp
    refine ⟨by rw [hR.len 33 (by first | decide | assumption)]; exact hv, ?_⟩
    obtain ⟨hv, hp⟩ := gix_some hp
    refine ⟨by rw [hR.len 33 (by first | decide | assumption)]; exact hv, ?_⟩
    intro s70 hs70
    have h2 := abs_setA hR 33 (by first | decide | assumption) hs70
    replace hR := hR.setA hs70
    replace hp := gst_up hp h2
    clear h2 hs70
    obtain ⟨u72, w72, he, hp⟩ := gb_some hp
    refine gq_X12_books hR he (fun s72 hR hw => ?_)
    subst hw
    clear he
    replace hp := grd_some hp
    intro s73 hs73
    have h2 := abs_setI (arr := arr) 2 (by decide) hs73
    replace hR := hR.setI hs73
    replace hp := gst_up hp h2
    clear h2 hs73
    replace hp := grd_some hp
    intro o74 ho74
    rw [hR.ref 19 (by decide)] at ho74
    subst ho74
    refine ⟨arr 19, rfl, ?_⟩
    obtain ⟨hv, hp⟩ := gix_some hp
    refine ⟨by rw [hR.len 19 (by first | decide | assumption)]; exact hv, ?_⟩
    exact hq _ _ hR hp
  · replace hp := gif_t hp c
    exact hq _ _ hR hp
set_option maxRecDepth 100000 in
set_option maxHeartbeats 1000000 in
theorem gq_X12_comeBack_21 {a0 : Nat} {arr : Nat → Nat} {r : Int32} {w' : MS} {Q : Int32 → St → Prop} (hq : ∀ (s : St) (x : Int32), RF a0 arr s → gret x (absM a0 arr s) = some (r, w') → Q x s) : ∀ (x1 : Int32) (x2 : Int32) (x3 : Int32) (xs0 : Int32) (σ : St), RF a0 arr σ → g_X12_comeBack_21 x1 x2 x3 xs0 (absM a0 arr σ) = some (r, w') → w_X12_comeBack_21 Q  a0 x1 x2 x3 xs0 σ := by
  intro x1 x2 x3 xs0 σ hR hp
  unfold g_X12_comeBack_21 at hp
  unfold w_X12_comeBack_21
  refine ⟨fun c => ?_, fun c => ?_⟩
  · replace hp := gif_f hp c
    obtain ⟨x55, w56, he, hp⟩ := gb_some hp
    refine gq_X12_arePieces hR he (fun s56 hR hw => ?_)
    subst hw
    clear he
    replace hp := grd_some hp
    refine ⟨fun c => ?_, fun c => ?_⟩
    · replace hp := gif_f hp c
      intro o58 ho58
      rw [hR.ref 33 (by decide)] at ho58
      subst ho58
      refine ⟨arr 33, rfl, ?_⟩
      obtain ⟨hv, hp⟩ := gix_some hp
      refine ⟨by rw [hR.len 33 (by first | decide | assumption)]; exact hv, ?_⟩
      refine ⟨fun c => ?_, fun c => ?_⟩
      · replace hp := gif_t hp c
        exact gq_X12_comeBack_64 hq _ _ _ _ _ hR hp
      · replace hp := gif_f hp c
        exact gq_X12_comeBack_64 hq _ _ _ _ _ hR hp
    · replace hp := gif_t hp c
      exact gq_X12_comeBack_64 hq _ _ _ _ _ hR hp
  · replace hp := gif_t hp c
    exact gq_X12_comeBack_64 hq _ _ _ _ _ hR hp
set_option maxRecDepth 100000 in
set_option maxHeartbeats 1000000 in
theorem gq_X12_comeBack_20 {a0 : Nat} {arr : Nat → Nat} {r : Int32} {w' : MS} {Q : Int32 → St → Prop} (hq : ∀ (s : St) (x : Int32), RF a0 arr s → gret x (absM a0 arr s) = some (r, w') → Q x s) : ∀ (x1 : Int32) (x2 : Int32) (x3 : Int32) (σ : St), RF a0 arr σ → g_X12_comeBack_20 x1 x2 x3 (absM a0 arr σ) = some (r, w') → w_X12_comeBack_20 Q  a0 x1 x2 x3 σ := by
  intro x1 x2 x3 σ hR hp
  unfold g_X12_comeBack_20 at hp
  unfold w_X12_comeBack_20
  exact gq_X12_comeBack_21 hq _ _ _ _ _ hR hp
set_option maxRecDepth 100000 in
set_option maxHeartbeats 1000000 in
theorem gq_X12_comeBack {a0 : Nat} {arr : Nat → Nat} {σ : St} {x1 : Int32} {x2 : Int32} {x3 : Int32} (hR : RF a0 arr σ) {r : Int32} {w' : MS} (hp : g_X12_comeBack x1 x2 x3 (absM a0 arr σ) = some (r, w')) {Q : Int32 → St → Prop} (hq : ∀ (s : St), RF a0 arr s → absM a0 arr s = w' → Q r s) : w_X12_comeBack a0 x1 x2 x3 σ Q := by
  replace hq : ∀ (s : St) (x : Int32), RF a0 arr s → gret x (absM a0 arr s) = some (r, w') → Q x s := fun s x hR e => by obtain ⟨rfl, hw⟩ := gret_some e; exact hq s hR hw
  unfold g_X12_comeBack at hp
  unfold w_X12_comeBack
  obtain ⟨x51, w52, he, hp⟩ := gb_some hp
  refine gq_X12_isOrder hR he (fun s52 hR hw => ?_)
  subst hw
  clear he
  refine ⟨fun c => ?_, fun c => ?_⟩
  · replace hp := gif_t hp c
    exact gq_X12_comeBack_20 hq _ _ _ _ hR hp
  · replace hp := gif_f hp c
    obtain ⟨x77, w78, he, hp⟩ := gb_some hp
    refine gq_X12_isLot hR he (fun s78 hR hw => ?_)
    subst hw
    clear he
    refine ⟨fun c => ?_, fun c => ?_⟩
    · replace hp := gif_t hp c
      exact gq_X12_comeBack_20 hq _ _ _ _ hR hp
    · replace hp := gif_f hp c
      exact gq_X12_comeBack_21 hq _ _ _ _ _ hR hp
set_option maxRecDepth 100000 in
set_option maxHeartbeats 1000000 in
theorem gq_X12_doing_13 {a0 : Nat} {arr : Nat → Nat} {r : Int32} {w' : MS} {Q : Int32 → St → Prop} (hq : ∀ (s : St) (x : Int32), RF a0 arr s → gret x (absM a0 arr s) = some (r, w') → Q x s) : ∀ (x1 : Int32) (xs1 : Int32) (σ : St), RF a0 arr σ → g_X12_doing_13 x1 xs1 (absM a0 arr σ) = some (r, w') → w_X12_doing_13 Q  a0 x1 a0 xs1 σ := by
  intro x1 xs1 σ hR hp
  unfold g_X12_doing_13 at hp
  unfold w_X12_doing_13
  obtain ⟨x54, w55, he, hp⟩ := gb_some hp
  refine gq_X12_holds hR he (fun s55 hR hw => ?_)
  subst hw
  clear he
  replace hp := grd_some hp
  refine ⟨fun c => ?_, fun c => ?_⟩
  · replace hp := gif_f hp c
    intro o57 ho57
    rw [hR.ref 59 (by decide)] at ho57
    subst ho57
    refine ⟨arr 59, rfl, ?_⟩
    obtain ⟨hv, hp⟩ := gix_some hp
    refine ⟨by rw [hR.len 59 (by first | decide | assumption)]; exact hv, ?_⟩
    refine ⟨fun c => ?_, fun c => ?_⟩
    · replace hp := gif_f hp c
      intro o61 ho61
      rw [hR.ref 58 (by decide)] at ho61
      subst ho61
      refine ⟨arr 58, rfl, ?_⟩
      obtain ⟨hv, hp⟩ := gix_some hp
      refine ⟨by rw [hR.len 58 (by first | decide | assumption)]; exact hv, ?_⟩
      exact hq _ _ hR hp
    · replace hp := gif_t hp c
      exact hq _ _ hR hp
  · replace hp := gif_t hp c
    exact hq _ _ hR hp
set_option maxRecDepth 100000 in
set_option maxHeartbeats 1000000 in
theorem gq_X12_doing {a0 : Nat} {arr : Nat → Nat} {σ : St} {x1 : Int32} (hR : RF a0 arr σ) {r : Int32} {w' : MS} (hp : g_X12_doing x1 (absM a0 arr σ) = some (r, w')) {Q : Int32 → St → Prop} (hq : ∀ (s : St), RF a0 arr s → absM a0 arr s = w' → Q r s) : w_X12_doing a0 x1 σ Q := by
  replace hq : ∀ (s : St) (x : Int32), RF a0 arr s → gret x (absM a0 arr s) = some (r, w') → Q x s := fun s x hR e => by obtain ⟨rfl, hw⟩ := gret_some e; exact hq s hR hw
  unfold g_X12_doing at hp
  unfold w_X12_doing
  obtain ⟨x51, w52, he, hp⟩ := gb_some hp
  refine gq_X12_isRobot hR he (fun s52 hR hw => ?_)
  subst hw
  clear he
  refine ⟨fun c => ?_, fun c => ?_⟩
  · replace hp := gif_t hp c
    exact gq_X12_doing_13 hq _ _ _ hR hp
  · replace hp := gif_f hp c
    exact gq_X12_doing_13 hq _ _ _ hR hp
