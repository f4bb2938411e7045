set_option maxRecDepth 100000 in
set_option maxHeartbeats 1000000 in
theorem q_X11_count_107 {D0 : Nat → Nat → Nat} {S0 S' : Ss} {r : Nat × Int32} {Q : Int32 → St → Prop} (hq : ∀ D σ S x, RC D σ S → zle S0 S → DX S0 D0 D → (mret (0, x)).1 S = some (r, S') → Q x σ) {Y : Nat → St → Prop} (hy : ∀ D σ S u, RC D σ S → zle S0 S → DX S0 D0 D → (mthr u).1 S = some (r, S') → ¬ u = 0 → Y u σ) : ∀ (D : Nat → Nat → Nat) (σ : St) (S : Ss) (a0 : Nat) (x1 : Int32) (x2 : Int32) (x3 : Int32) (x5 : Int32), RC D σ S → zle S0 S → DX S0 D0 D → AT D S 11 0 a0 → (f_X11_count_107 x1 x2 x3 x5).1 S = some (r, S') → ∀ k n : Nat, zN S' 61 ≤ zN S 61 + k → zN S' 62 ≤ zN S 62 + n → w_X11_count_107 Q Y  a0 x1 x2 x3 x5 σ k n := by
  intro D σ S a0 x1 x2 x3 x5 h L0 X0 A0 hp k n hk hn
  unfold f_X11_count_107 at hp
  unfold w_X11_count_107
  refine ⟨fun c => ?_, fun c => ?_⟩
  · replace hp := mif_t hp c
    intro o72 ho72
    obtain ⟨b72, p72, B72⟩ := h.bok A0 ho72
    refine ⟨b72, p72, ?_⟩
    obtain ⟨w75, S75, e75, L75, hp⟩ := mb_some hp
    refine q_X0_keepDoubt h B72 e75 (fun D75 s75 h75 X75 => ?_)
    have hk := bup hk (L75 61)
    have hn := bup hn (L75 62)
    have X0 := X0.tr L0 X75
    have L0 := L0.tr L75
    have A0_s75 := A0.up L75 X75
    exact q_X11_count_144 hq hy  _ _ _ _ _ h75 L0 X0 A0_s75 hp _ _ hk hn
  · replace hp := mif_f hp c
    intro o77 ho77
    obtain ⟨b77, p77, B77⟩ := h.bok A0 ho77
    intro o78 ho78
    obtain ⟨b78, p78, B78⟩ := h.lis 1103 11 5 rfl A0 ((lv_o (by decide)).mp A0.1) ho78
    refine ⟨b78, p78, ?_⟩
    obtain ⟨i80, e80, hp⟩ := mlget_some hp
    refine q_get h (show lF 1103 11 5 = true from rfl) B78 e80 (fun b80 B80 => ?_)
    refine ⟨b80, rfl, ?_⟩
    refine ⟨h.ob (by decide) B80, ?_⟩
    refine ⟨b77, p77, ?_⟩
    obtain ⟨w86, S86, e86, L86, hp⟩ := mb_some hp
    have M86 := mle hp
    obtain ⟨k87, k89, f1, f2, hk⟩ := bud (L86 61) (M86 61) hk
    obtain ⟨n88, n90, g1, g2, hn⟩ := bud (L86 62) (M86 62) hn
    refine ⟨k87, n88, k89, n90, f1, g1, q_X0_believeTruth h B77 B80 e86 f2 g2 (fun D86 s86 h86 X86 => ?_)⟩
    have X0 := X0.tr L0 X86
    have L0 := L0.tr L86
    have A0_s86 := A0.up L86 X86
    exact q_X11_count_144 hq hy  _ _ _ _ _ h86 L0 X0 A0_s86 hp _ _ hk hn
set_option maxRecDepth 100000 in
set_option maxHeartbeats 1000000 in
theorem q_X11_count_74 {D0 : Nat → Nat → Nat} {S0 S' : Ss} {r : Nat × Int32} {Q : Int32 → St → Prop} (hq : ∀ D σ S x, RC D σ S → zle S0 S → DX S0 D0 D → (mret (0, x)).1 S = some (r, S') → Q x σ) {Y : Nat → St → Prop} (hy : ∀ D σ S u, RC D σ S → zle S0 S → DX S0 D0 D → (mthr u).1 S = some (r, S') → ¬ u = 0 → Y u σ) : ∀ (D : Nat → Nat → Nat) (σ : St) (S : Ss) (a0 : Nat) (x1 : Int32) (x2 : Int32) (x3 : Int32) (x4 : Int32) (xs0 : Int32), RC D σ S → zle S0 S → DX S0 D0 D → AT D S 11 0 a0 → (f_X11_count_74 x1 x2 x3 x4 xs0).1 S = some (r, S') → ∀ k n : Nat, zN S' 61 ≤ zN S 61 + k → zN S' 62 ≤ zN S 62 + n → w_X11_count_74 Q Y  a0 x1 x2 x3 x4 xs0 σ k n := by
  intro D σ S a0 x1 x2 x3 x4 xs0 h L0 X0 A0 hp k n hk hn
  unfold f_X11_count_74 at hp
  unfold w_X11_count_74
  refine ⟨fun c => ?_, fun c => ?_⟩
  · replace hp := mif_t hp c
    exact q_X11_count_107 hq hy  _ _ _ _ _ _ _ _ h L0 X0 A0 hp _ _ hk hn
  · replace hp := mif_f hp c
    refine ⟨fun c => ?_, fun c => ?_⟩
    · replace hp := mif_t hp c
      exact q_X11_count_107 hq hy  _ _ _ _ _ _ _ _ h L0 X0 A0 hp _ _ hk hn
    · replace hp := mif_f hp c
      intro o94 ho94
      obtain ⟨b94, p94, B94⟩ := h.lis 1103 11 5 rfl A0 ((lv_o (by decide)).mp A0.1) ho94
      refine ⟨b94, p94, ?_⟩
      obtain ⟨i96, e96, hp⟩ := mlget_some hp
      refine q_get h (show lF 1103 11 5 = true from rfl) B94 e96 (fun b96 B96 => ?_)
      refine ⟨b96, rfl, ?_⟩
      refine ⟨h.ob (by decide) B96, ?_⟩
      obtain ⟨w101, S101, e101, L101, hp⟩ := mb_some hp
      have M101 := mle hp
      obtain ⟨k102, k104, f1, f2, hk⟩ := bud (L101 61) (M101 61) hk
      obtain ⟨n103, n105, g1, g2, hn⟩ := bud (L101 62) (M101 62) hn
      refine ⟨k102, n103, k104, n105, f1, g1, q_X11_shorten h A0 B96 ATo.nn e101 f2 g2 (fun D101 s101 h101 X101 => ?_)⟩
      have X0 := X0.tr L0 X101
      have L0 := L0.tr L101
      have A0_s101 := A0.up L101 X101
      exact q_X11_count_144 hq hy  _ _ _ _ _ h101 L0 X0 A0_s101 hp _ _ hk hn
set_option maxRecDepth 100000 in
set_option maxHeartbeats 1000000 in
theorem q_X11_count_73 {D0 : Nat → Nat → Nat} {S0 S' : Ss} {r : Nat × Int32} {Q : Int32 → St → Prop} (hq : ∀ D σ S x, RC D σ S → zle S0 S → DX S0 D0 D → (mret (0, x)).1 S = some (r, S') → Q x σ) {Y : Nat → St → Prop} (hy : ∀ D σ S u, RC D σ S → zle S0 S → DX S0 D0 D → (mthr u).1 S = some (r, S') → ¬ u = 0 → Y u σ) : ∀ (D : Nat → Nat → Nat) (σ : St) (S : Ss) (a0 : Nat) (x1 : Int32) (x2 : Int32) (x3 : Int32) (x4 : Int32), RC D σ S → zle S0 S → DX S0 D0 D → AT D S 11 0 a0 → (f_X11_count_73 x1 x2 x3 x4).1 S = some (r, S') → ∀ k n : Nat, zN S' 61 ≤ zN S 61 + k → zN S' 62 ≤ zN S 62 + n → w_X11_count_73 Q Y  a0 x1 x2 x3 x4 σ k n := by
  intro D σ S a0 x1 x2 x3 x4 h L0 X0 A0 hp k n hk hn
  unfold f_X11_count_73 at hp
  unfold w_X11_count_73
  exact q_X11_count_74 hq hy  _ _ _ _ _ _ _ _ _ h L0 X0 A0 hp _ _ hk hn
set_option maxRecDepth 100000 in
set_option maxHeartbeats 1000000 in
theorem q_X11_count {D : Nat → Nat → Nat} {σ : St} {S S' : Ss} {a0 : Nat} {x1 : Int32} {x2 : Int32} {r : Nat × Int32} (h : RC D σ S) (A0 : AT D S 11 0 a0) (hp : (f_X11_count x1 x2).1 S = some (r, S')) {k n : Nat} (hk : zN S' 61 ≤ zN S 61 + k) (hn : zN S' 62 ≤ zN S 62 + n) {Q : Int32 → St → Prop} (hq : ∀ D' τ, RC D' τ S' → DX S D D' → r.1 = 0 → Q r.2 τ) {Y : Nat → St → Prop} (hy : ∀ D' τ u, RC D' τ S' → DX S D D' → r.1 = u → ¬ u = 0 → Y u τ) : w_X11_count k n a0 x1 x2 σ Q Y := by
  have L0 := zle.rf S
  have X0 := DX.rf S D
  replace hq : ∀ D9 σ9 S9 x, RC D9 σ9 S9 → zle S S9 → DX S D D9 → (mret (0, x)).1 S9 = some (r, S') → Q x σ9 := fun D9 σ9 S9 x h9 _ X9 e9 => by obtain ⟨rfl, rfl⟩ := mret_some e9; exact hq D9 σ9 h9 X9 rfl
  replace hy : ∀ D9 σ9 S9 u, RC D9 σ9 S9 → zle S S9 → DX S D D9 → (mthr u).1 S9 = some (r, S') → ¬ u = 0 → Y u σ9 := fun D9 σ9 S9 u h9 _ X9 e9 n9 => by cases e9; exact hy D9 σ9 u (h9.cost _ _) X9 rfl n9
  unfold f_X11_count at hp
  unfold w_X11_count
  obtain ⟨x51, S52, e52, L52, hp⟩ := mb_some hp
  refine q_X11_isSlot h  e52 (fun D52 s52 h52 X52 => ?_)
  have hk := bup hk (L52 61)
  have hn := bup hn (L52 62)
  have X0 := X0.tr L0 X52
  have L0 := L0.tr L52
  refine ⟨fun c => ?_, fun c => ?_⟩
  · replace hp := mif_t hp c
    have hb := mthr_b hp hk hn
    exact ⟨hb.1, hb.2, hy _ _ _ _ h52 L0 X0 hp (by decide)⟩
  · replace hp := mif_f hp c
    have A0_s52 := A0.up L52 X52
    obtain ⟨x54, S55, e55, L55, hp⟩ := mb_some hp
    refine q_X11_isLot h52 A0_s52 e55 (fun D55 s55 h55 X55 => ?_)
    have hk := bup hk (L55 61)
    have hn := bup hn (L55 62)
    have X0 := X0.tr L0 X55
    have L0 := L0.tr L55
    replace hp := mrd_some hp
    refine ⟨fun c => ?_, fun c => ?_⟩
    · replace hp := mif_f hp c
      have A0_s55 := A0_s52.up L55 X55
      intro o57 ho57
      obtain ⟨b57, p57, B57⟩ := h55.bok A0_s55 ho57
      refine ⟨b57, p57, ?_⟩
      intro o59 ho59
      obtain ⟨b59, p59, B59⟩ := h55.cel 2 0 rfl B57 ho59
      refine ⟨b59, p59, ?_⟩
      obtain ⟨x61, ex61, hp⟩ := mbo_some hp
      refine q_at h55 (show cF 2 0 = true from rfl) B59 ex61 ?_
      intro o63 ho63
      obtain ⟨b63, p63, B63⟩ := h55.bok A0_s55 ho63
      refine ⟨b63, p63, ?_⟩
      intro o65 ho65
      obtain ⟨b65, p65, B65⟩ := h55.cel 0 0 rfl B63 ho65
      refine ⟨b65, p65, ?_⟩
      obtain ⟨x67, ex67, hp⟩ := mbo_some hp
      refine q_at h55 (show cF 0 0 = true from rfl) B65 ex67 ?_
      refine ⟨fun c => ?_, fun c => ?_⟩
      · replace hp := mif_t hp c
        exact q_X11_count_73 hq hy  _ _ _ _ _ _ _ _ h55 L0 X0 A0_s55 hp _ _ hk hn
      · replace hp := mif_f hp c
        intro o108 ho108
        obtain ⟨b108, p108, B108⟩ := h55.bok A0_s55 ho108
        refine ⟨b108, p108, ?_⟩
        obtain ⟨x110, S111, e111, L111, hp⟩ := mb_some hp
        refine q_X0_isDoubted h55 B108 e111 (fun D111 s111 h111 X111 => ?_)
        have hk := bup hk (L111 61)
        have hn := bup hn (L111 62)
        have X0 := X0.tr L0 X111
        have L0 := L0.tr L111
        refine ⟨fun c => ?_, fun c => ?_⟩
        · replace hp := mif_t hp c
          have A0_s111 := A0_s55.up L111 X111
          exact q_X11_count_73 hq hy  _ _ _ _ _ _ _ _ h111 L0 X0 A0_s111 hp _ _ hk hn
        · replace hp := mif_f hp c
          have A0_s111 := A0_s55.up L111 X111
          exact q_X11_count_74 hq hy  _ _ _ _ _ _ _ _ _ h111 L0 X0 A0_s111 hp _ _ hk hn
    · replace hp := mif_t hp c
      have hb := mthr_b hp hk hn
      exact ⟨hb.1, hb.2, hy _ _ _ _ h55 L0 X0 hp (by decide)⟩
set_option maxRecDepth 100000 in
set_option maxHeartbeats 1000000 in
theorem q_X11_doStationInSlot_76 {D0 : Nat → Nat → Nat} {S0 S' : Ss} {r : Unit} {Q : St → Prop} (hq : ∀ D σ S, RC D σ S → zle S0 S → DX S0 D0 D → (mret ()).1 S = some (r, S') → Q σ) : ∀ (D : Nat → Nat → Nat) (σ : St) (S : Ss) (a0 : Nat) (a1 : Nat) (i1 : Nat), RC D σ S → zle S0 S → DX S0 D0 D → AT D S 11 0 a0 → AT D S 10 i1 a1 → (f_X11_doStationInSlot_76 i1).1 S = some (r, S') → ∀ k n : Nat, zN S' 61 ≤ zN S 61 + k → zN S' 62 ≤ zN S 62 + n → w_X11_doStationInSlot_76 Q  a0 a1 σ k n := by
  intro D σ S a0 a1 i1 h L0 X0 A0 A1 hp k n hk hn
  unfold f_X11_doStationInSlot_76 at hp
  unfold w_X11_doStationInSlot_76
  obtain ⟨w55, S55, e55, L55, hp⟩ := mb_some hp
  have M55 := mle hp
  obtain ⟨k56, k58, f1, f2, hk⟩ := bud (L55 61) (M55 61) hk
  obtain ⟨n57, n59, g1, g2, hn⟩ := bud (L55 62) (M55 62) hn
  refine ⟨k56, n57, k58, n59, f1, g1, q_X11_finish h A0 A1 e55 f2 g2 (fun D55 s55 h55 X55 => ?_)⟩
  have X0 := X0.tr L0 X55
  have L0 := L0.tr L55
  exact hq _ _ _ h55 L0 X0 hp
set_option maxRecDepth 100000 in
set_option maxHeartbeats 1000000 in
theorem q_X11_doStationInSlot_53 {D0 : Nat → Nat → Nat} {S0 S' : Ss} {r : Unit} {Q : St → Prop} (hq : ∀ D σ S, RC D σ S → zle S0 S → DX S0 D0 D → (mret ()).1 S = some (r, S') → Q σ) : ∀ (D : Nat → Nat → Nat) (σ : St) (S : Ss) (a0 : Nat) (a1 : Nat) (i1 : Nat), RC D σ S → zle S0 S → DX S0 D0 D → AT D S 11 0 a0 → AT D S 10 i1 a1 → (f_X11_doStationInSlot_53 i1).1 S = some (r, S') → ∀ k n : Nat, zN S' 61 ≤ zN S 61 + k → zN S' 62 ≤ zN S 62 + n → w_X11_doStationInSlot_53 Q  a0 a1 σ k n := by
  intro D σ S a0 a1 i1 h L0 X0 A0 A1 hp k n hk hn
  unfold f_X11_doStationInSlot_53 at hp
  unfold w_X11_doStationInSlot_53
  replace hp := mrd_some hp
  refine ⟨fun c => ?_, fun c => ?_⟩
  · rw [h.int 1001 10 rfl (by decide) A1] at c
    replace hp := mif_f hp c
    exact q_X11_doStationInSlot_76 hq  _ _ _ _ _ _ h L0 X0 A0 A1 hp _ _ hk hn
  · rw [h.int 1001 10 rfl (by decide) A1] at c
    replace hp := mif_t hp c
    refine ⟨fun c => ?_, fun c => ?_⟩
    · rw [h.int 1006 10 rfl (by decide) A1] at c
      replace hp := mif_f hp c
      exact q_X11_doStationInSlot_76 hq  _ _ _ _ _ _ h L0 X0 A0 A1 hp _ _ hk hn
    · rw [h.int 1006 10 rfl (by decide) A1] at c
      replace hp := mif_t hp c
      intro s63 es63
      obtain ⟨S63, z63, L63, hp⟩ := mst_some hp
      have h63 := h.wI (rfl : 1006 / 100 = 10) (by decide) (by decide) A1 es63
      rw [z63] at h63
      have L0 := L0.tr L63
      have hk := bup hk (L63 61)
      have hn := bup hn (L63 62)
      exact hq _ _ _ h63 L0 X0 hp
set_option maxRecDepth 100000 in
set_option maxHeartbeats 1000000 in
theorem q_X11_doStationInSlot {D : Nat → Nat → Nat} {σ : St} {S S' : Ss} {a0 : Nat} {a1 : Nat} {i1 : Nat} {r : Unit} (h : RC D σ S) (A0 : AT D S 11 0 a0) (A1 : AT D S 10 i1 a1) (hp : (f_X11_doStationInSlot i1).1 S = some (r, S')) {k n : Nat} (hk : zN S' 61 ≤ zN S 61 + k) (hn : zN S' 62 ≤ zN S 62 + n) {Q : St → Prop} (hq : ∀ D' τ, RC D' τ S' → DX S D D' → Q τ) : w_X11_doStationInSlot k n a0 a1 σ Q := by
  have L0 := zle.rf S
  have X0 := DX.rf S D
  replace hq : ∀ D9 σ9 S9, RC D9 σ9 S9 → zle S S9 → DX S D D9 → (mret ()).1 S9 = some (r, S') → Q σ9 := fun D9 σ9 S9 h9 _ X9 e9 => by obtain ⟨rfl, rfl⟩ := mret_some e9; exact hq D9 σ9 h9 X9
  unfold f_X11_doStationInSlot at hp
  unfold w_X11_doStationInSlot
  replace hp := mrd_some hp
  intro o51 ho51
  obtain ⟨r51, e51, hp⟩ := mbo_some hp
  have B51 := h.refr 1002 10 2 rfl A1
  rw [← ho51, ← e51] at B51
  refine ⟨fun c => ?_, fun c => ?_⟩
  · rw [h.int 1006 10 rfl (by decide) A1] at c
    replace hp := mif_f hp c
    exact q_X11_doStationInSlot_53 hq  _ _ _ _ _ _ h L0 X0 A0 A1 hp _ _ hk hn
  · rw [h.int 1006 10 rfl (by decide) A1] at c
    replace hp := mif_t hp c
    intro o64 ho64
    obtain ⟨b64, p64, B64⟩ := h.bok A0 ho64
    refine ⟨b64, p64, ?_⟩
    intro o66 ho66
    obtain ⟨b66, p66, B66⟩ := h.cel 2 0 rfl B64 ho66
    obtain ⟨i67, e67, hp⟩ := mopt_some hp
    obtain ⟨a67, p67, B67⟩ := B51.so e67
    refine ⟨a67, p67, ?_⟩
    intro o68 ho68
    obtain ⟨r68, e68, hp⟩ := mbo_some hp
    have B68 := h.refr 203 2 5 rfl B67
    rw [← ho68, ← e68] at B68
    obtain ⟨i69, e69, hp⟩ := mopt_some hp
    obtain ⟨a69, p69, B69⟩ := B68.so e69
    refine ⟨a69, p69, ?_⟩
    refine ⟨b66, p66, ?_⟩
    rw [h.int 202 2 rfl (by decide) B67, h.int 500 5 rfl (by decide) B69]
    obtain ⟨x71, ex71, hp⟩ := mbo_some hp
    refine q_at h (show cF 2 0 = true from rfl) B66 ex71 ?_
    refine ⟨fun c => ?_, fun c => ?_⟩
    · rw [h.int 1004 10 rfl (by decide) A1] at c
      replace hp := mif_t hp c
      exact q_X11_doStationInSlot_53 hq  _ _ _ _ _ _ h L0 X0 A0 A1 hp _ _ hk hn
    · rw [h.int 1004 10 rfl (by decide) A1] at c
      replace hp := mif_f hp c
      intro o74 ho74
      obtain ⟨r74, e74, hp⟩ := mbo_some hp
      have B74 := h.refr 203 2 5 rfl B67
      rw [← ho74, ← e74] at B74
      obtain ⟨i75, e75, hp⟩ := mopt_some hp
      obtain ⟨a75, p75, B75⟩ := B74.so e75
      refine ⟨a75, p75, ?_⟩
      rw [h.int 202 2 rfl (by decide) B67]
      obtain ⟨w77, S77, e77, L77, hp⟩ := mb_some hp
      have M77 := mle hp
      obtain ⟨k78, k80, f1, f2, hk⟩ := bud (L77 61) (M77 61) hk
      obtain ⟨n79, n81, g1, g2, hn⟩ := bud (L77 62) (M77 62) hn
      refine ⟨k78, n79, k80, n81, f1, g1, q_X11_shorten h A0 B75 (B67.sm) e77 f2 g2 (fun D77 s77 h77 X77 => ?_)⟩
      have X0 := X0.tr L0 X77
      have L0 := L0.tr L77
      have A0_s77 := A0.up L77 X77
      have A1_s77 := A1.up L77 X77
      exact q_X11_doStationInSlot_53 hq  _ _ _ _ _ _ h77 L0 X0 A0_s77 A1_s77 hp _ _ hk hn
set_option maxRecDepth 100000 in
set_option maxHeartbeats 1000000 in
theorem q_X11_recall_59 {D0 : Nat → Nat → Nat} {S0 S' : Ss} {r : Nat × Int32} {Q : Int32 → St → Prop} (hq : ∀ D σ S x, RC D σ S → zle S0 S → DX S0 D0 D → (mret (0, x)).1 S = some (r, S') → Q x σ) {Y : Nat → St → Prop} (hy : ∀ D σ S u, RC D σ S → zle S0 S → DX S0 D0 D → (mthr u).1 S = some (r, S') → ¬ u = 0 → Y u σ) : ∀ (f : Nat) (D : Nat → Nat → Nat) (σ : St) (S : Ss) (a0 : Nat) (x1 : Int32) (x3 : Int32) (x4 : Int32), RC D σ S → zle S0 S → DX S0 D0 D → AT D S 11 0 a0 → (f_X11_recall_59 f x1 x3 x4).1 S = some (r, S') → ∀ k n : Nat, zN S' 61 ≤ zN S 61 + k → zN S' 62 ≤ zN S 62 + n → w_X11_recall_59 Q Y  f a0 x1 x3 x4 σ k n := by
  intro f
  induction f with
  | zero => intro D σ S a0 x1 x3 x4 h L0 X0 A0 hp k n hk hn; cases hp
  | succ f ih =>
    intro D σ S a0 x1 x3 x4 h L0 X0 A0 hp k n hk hn
    unfold f_X11_recall_59 at hp
    unfold w_X11_recall_59
    replace hp := mrd_some hp
    intro o64 ho64
    obtain ⟨b64, p64, B64⟩ := h.lis 1106 11 7 rfl A0 ((lv_o (by decide)).mp A0.1) ho64
    refine ⟨b64, p64, ?_⟩
    obtain ⟨x66, ex66, hp⟩ := mbo_some hp
    refine q_size h (show lF 1106 11 7 = true from rfl) B64 ex66 ?_
    refine ⟨fun c => ?_, fun c => ?_⟩
    · replace hp := mif_t hp c
      exact hq _ _ _ _ h L0 X0 hp
    · replace hp := mif_f hp c
      intro o69 ho69
      obtain ⟨b69, p69, B69⟩ := h.cel 1111 11 rfl A0 ho69
      refine ⟨b69, p69, ?_⟩
      obtain ⟨x71, ex71, hp⟩ := mbo_some hp
      refine q_at h (show cF 1111 11 = true from rfl) B69 ex71 ?_
      intro x73 hx73
      obtain ⟨yx73, ex73, hp⟩ := mbo_some hp
      obtain rfl : yx73 = x73 := ex73.trans hx73.symm
      exact ih _ _ _ _ _ _ _ h L0 X0 A0 hp _ _ hk hn
set_option maxRecDepth 100000 in
set_option maxHeartbeats 1000000 in
theorem q_X11_recall {D : Nat → Nat → Nat} {σ : St} {S S' : Ss} {a0 : Nat} {x1 : Int32} {r : Nat × Int32} (h : RC D σ S) (A0 : AT D S 11 0 a0) (hp : (f_X11_recall x1).1 S = some (r, S')) {k n : Nat} (hk : zN S' 61 ≤ zN S 61 + k) (hn : zN S' 62 ≤ zN S 62 + n) {Q : Int32 → St → Prop} (hq : ∀ D' τ, RC D' τ S' → DX S D D' → r.1 = 0 → Q r.2 τ) {Y : Nat → St → Prop} (hy : ∀ D' τ u, RC D' τ S' → DX S D D' → r.1 = u → ¬ u = 0 → Y u τ) : w_X11_recall k n a0 x1 σ Q Y := by
  have L0 := zle.rf S
  have X0 := DX.rf S D
  replace hq : ∀ D9 σ9 S9 x, RC D9 σ9 S9 → zle S S9 → DX S D D9 → (mret (0, x)).1 S9 = some (r, S') → Q x σ9 := fun D9 σ9 S9 x h9 _ X9 e9 => by obtain ⟨rfl, rfl⟩ := mret_some e9; exact hq D9 σ9 h9 X9 rfl
  replace hy : ∀ D9 σ9 S9 u, RC D9 σ9 S9 → zle S S9 → DX S D D9 → (mthr u).1 S9 = some (r, S') → ¬ u = 0 → Y u σ9 := fun D9 σ9 S9 u h9 _ X9 e9 n9 => by cases e9; exact hy D9 σ9 u (h9.cost _ _) X9 rfl n9
  unfold f_X11_recall at hp
  unfold w_X11_recall
  obtain ⟨x51, S52, e52, L52, hp⟩ := mb_some hp
  refine q_X11_isLot h A0 e52 (fun D52 s52 h52 X52 => ?_)
  have hk := bup hk (L52 61)
  have hn := bup hn (L52 62)
  have X0 := X0.tr L0 X52
  have L0 := L0.tr L52
  replace hp := mrd_some hp
  refine ⟨fun c => ?_, fun c => ?_⟩
  · replace hp := mif_f hp c
    have A0_s52 := A0.up L52 X52
    intro o54 ho54
    obtain ⟨b54, p54, B54⟩ := h52.lis 1103 11 5 rfl A0_s52 ((lv_o (by decide)).mp A0_s52.1) ho54
    refine ⟨b54, p54, ?_⟩
    obtain ⟨i56, e56, hp⟩ := mlget_some hp
    refine q_get h52 (show lF 1103 11 5 = true from rfl) B54 e56 (fun b56 B56 => ?_)
    refine ⟨b56, rfl, ?_⟩
    refine ⟨h52.ob (by decide) B56, ?_⟩
    refine ⟨fun c => ?_, fun c => ?_⟩
    · rw [h52.int 503 5 rfl (by decide) B56] at c
      replace hp := mif_t hp c
      intro s61 es61
      obtain ⟨S61, z61, L61, hp⟩ := mst_some hp
      have h61 := h52.wI (rfl : 503 / 100 = 5) (by decide) (by decide) B56 es61
      rw [z61] at h61
      have L0 := L0.tr L61
      have hk := bup hk (L61 61)
      have hn := bup hn (L61 62)
      have A0_s61 := A0_s52.up L61 (DX.rf _ _)
      have B56_s61 := B56.up L61 (DX.rf _ _)
      obtain ⟨w63, S63, e63, L63, hp⟩ := mb_some hp
      refine q_X11_letGo h61 A0_s61 ATo.nn (B56_s61.sm) e63 (fun D63 s63 h63 X63 => ?_)
      have hk := bup hk (L63 61)
      have hn := bup hn (L63 62)
      have X0 := X0.tr L0 X63
      have L0 := L0.tr L63
      refine ⟨FU, ?_⟩
      have A0_s63 := A0_s61.up L63 X63
      exact q_X11_recall_59 hq hy FU _ _ _ _ _ _ _ h63 L0 X0 A0_s63 hp _ _ hk hn
    · rw [h52.int 503 5 rfl (by decide) B56] at c
      replace hp := mif_f hp c
      have hb := mthr_b hp hk hn
      exact ⟨hb.1, hb.2, hy _ _ _ _ h52 L0 X0 hp (by decide)⟩
  · replace hp := mif_t hp c
    have hb := mthr_b hp hk hn
    exact ⟨hb.1, hb.2, hy _ _ _ _ h52 L0 X0 hp (by decide)⟩
set_option maxRecDepth 100000 in
set_option maxHeartbeats 1000000 in
theorem q_X11_send {D : Nat → Nat → Nat} {σ : St} {S S' : Ss} {a0 : Nat} {x1 : Int32} {r : Nat × Int32} (h : RC D σ S) (A0 : AT D S 11 0 a0) (hp : (f_X11_send x1).1 S = some (r, S')) {k n : Nat} (hk : zN S' 61 ≤ zN S 61 + k) (hn : zN S' 62 ≤ zN S 62 + n) {Q : Int32 → St → Prop} (hq : ∀ D' τ, RC D' τ S' → DX S D D' → r.1 = 0 → Q r.2 τ) {Y : Nat → St → Prop} (hy : ∀ D' τ u, RC D' τ S' → DX S D D' → r.1 = u → ¬ u = 0 → Y u τ) : w_X11_send k n a0 x1 σ Q Y := by
  have L0 := zle.rf S
  have X0 := DX.rf S D
  replace hq : ∀ D9 σ9 S9 x, RC D9 σ9 S9 → zle S S9 → DX S D D9 → (mret (0, x)).1 S9 = some (r, S') → Q x σ9 := fun D9 σ9 S9 x h9 _ X9 e9 => by obtain ⟨rfl, rfl⟩ := mret_some e9; exact hq D9 σ9 h9 X9 rfl
  replace hy : ∀ D9 σ9 S9 u, RC D9 σ9 S9 → zle S S9 → DX S D D9 → (mthr u).1 S9 = some (r, S') → ¬ u = 0 → Y u σ9 := fun D9 σ9 S9 u h9 _ X9 e9 n9 => by cases e9; exact hy D9 σ9 u (h9.cost _ _) X9 rfl n9
  unfold f_X11_send at hp
  unfold w_X11_send
  obtain ⟨x51, S52, e52, L52, hp⟩ := mb_some hp
  refine q_X11_isOrder h A0 e52 (fun D52 s52 h52 X52 => ?_)
  have hk := bup hk (L52 61)
  have hn := bup hn (L52 62)
  have X0 := X0.tr L0 X52
  have L0 := L0.tr L52
  replace hp := mrd_some hp
  refine ⟨fun c => ?_, fun c => ?_⟩
  · replace hp := mif_f hp c
    have A0_s52 := A0.up L52 X52
    intro o54 ho54
    obtain ⟨b54, p54, B54⟩ := h52.lis 1106 11 7 rfl A0_s52 ((lv_o (by decide)).mp A0_s52.1) ho54
    refine ⟨b54, p54, ?_⟩
    obtain ⟨i56, e56, hp⟩ := mlget_some hp
    refine q_get h52 (show lF 1106 11 7 = true from rfl) B54 e56 (fun b56 B56 => ?_)
    refine ⟨b56, rfl, ?_⟩
    refine ⟨h52.ob (by decide) B56, ?_⟩
    refine ⟨fun c => ?_, fun c => ?_⟩
    · rw [h52.int 705 7 rfl (by decide) B56] at c
      replace hp := mif_t hp c
      obtain ⟨w62, S62, e62, L62, hp⟩ := mb_some hp
      refine q_X11_letGo h52 A0_s52 (B56.sm) ATo.nn e62 (fun D62 s62 h62 X62 => ?_)
      have hk := bup hk (L62 61)
      have hn := bup hn (L62 62)
      have X0 := X0.tr L0 X62
      have L0 := L0.tr L62
      have A0_s62 := A0_s52.up L62 X62
      have B56_s62 := B56.up L62 X62
      obtain ⟨w64, S64, e64, L64, hp⟩ := mb_some hp
      refine q_X11_pack h62 A0_s62 B56_s62 e64 (fun D64 s64 h64 X64 => ?_)
      have hk := bup hk (L64 61)
      have hn := bup hn (L64 62)
      have X0 := X0.tr L0 X64
      have L0 := L0.tr L64
      replace hp := mrd_some hp
      intro s65 es65
      have A0_s64 := A0_s62.up L64 X64
      rw [h64.int 1118 11 rfl (by decide) A0_s64, h64.int 1114 11 rfl (by decide) A0_s64] at es65
      obtain ⟨S65, z65, L65, hp⟩ := mst_some hp
      have h65 := h64.wI (rfl : 1118 / 100 = 11) (by decide) (by decide) A0_s64 es65
      rw [z65] at h65
      have L0 := L0.tr L65
      have hk := bup hk (L65 61)
      have hn := bup hn (L65 62)
      intro s66 es66
      have B56_s64 := B56_s62.up L64 X64
      have B56_s65 := B56_s64.up L65 (DX.rf _ _)
      obtain ⟨S66, z66, L66, hp⟩ := mst_some hp
      have h66 := h65.wI (rfl : 705 / 100 = 7) (by decide) (by decide) B56_s65 es66
      rw [z66] at h66
      have L0 := L0.tr L66
      have hk := bup hk (L66 61)
      have hn := bup hn (L66 62)
      replace hp := mrd_some hp
      intro s67 es67
      have B56_s66 := B56_s65.up L66 (DX.rf _ _)
      have A0_s65 := A0_s64.up L65 (DX.rf _ _)
      have A0_s66 := A0_s65.up L66 (DX.rf _ _)
      rw [h66.int 1115 11 rfl (by decide) A0_s66] at es67
      obtain ⟨S67, z67, L67, hp⟩ := mst_some hp
      have h67 := h66.wI (rfl : 706 / 100 = 7) (by decide) (by decide) B56_s66 es67
      rw [z67] at h67
      have L0 := L0.tr L67
      have hk := bup hk (L67 61)
      have hn := bup hn (L67 62)
      have A0_s67 := A0_s66.up L67 (DX.rf _ _)
      obtain ⟨x68, S69, e69, L69, hp⟩ := mb_some hp
      have M69 := mle hp
      obtain ⟨k70, k72, f1, f2, hk⟩ := bud (L69 61) (M69 61) hk
      obtain ⟨n71, n73, g1, g2, hn⟩ := bud (L69 62) (M69 62) hn
      refine ⟨k70, n71, k72, n73, f1, g1, q_X11_sendStand h67 A0_s67 e69 f2 g2 (fun D69 s69 h69 X69 => ?_)⟩
      have X0 := X0.tr L0 X69
      have L0 := L0.tr L69
      exact hq _ _ _ _ h69 L0 X0 hp
    · rw [h52.int 705 7 rfl (by decide) B56] at c
      replace hp := mif_f hp c
      have hb := mthr_b hp hk hn
      exact ⟨hb.1, hb.2, hy _ _ _ _ h52 L0 X0 hp (by decide)⟩
  · replace hp := mif_t hp c
    have hb := mthr_b hp hk hn
    exact ⟨hb.1, hb.2, hy _ _ _ _ h52 L0 X0 hp (by decide)⟩
set_option maxRecDepth 100000 in
set_option maxHeartbeats 1000000 in
theorem q_X11_act_132 {D0 : Nat → Nat → Nat} {S0 S' : Ss} {r : Unit} {Q : St → Prop} (hq : ∀ D σ S, RC D σ S → zle S0 S → DX S0 D0 D → (mret ()).1 S = some (r, S') → Q σ) : ∀ (D : Nat → Nat → Nat) (σ : St) (S : Ss) (as0 : Nat) (is0 : Nat) (xs1 : Int32) (xs2 : Int32), RC D σ S → zle S0 S → DX S0 D0 D → AT D S 8 is0 as0 → (f_X11_act_132 is0 xs1 xs2).1 S = some (r, S') → ∀ k n : Nat, zN S' 61 ≤ zN S 61 + k → zN S' 62 ≤ zN S 62 + n → w_X11_act_132 Q  as0 xs1 xs2 σ k n := by
  intro D σ S as0 is0 xs1 xs2 h L0 X0 As0 hp k n hk hn
  unfold f_X11_act_132 at hp
  unfold w_X11_act_132
  intro s72 es72
  obtain ⟨S72, z72, L72, hp⟩ := mst_some hp
  have h72 := h.wI (rfl : 802 / 100 = 8) (by decide) (by decide) As0 es72
  rw [z72] at h72
  have L0 := L0.tr L72
  have hk := bup hk (L72 61)
  have hn := bup hn (L72 62)
  exact hq _ _ _ h72 L0 X0 hp
set_option maxRecDepth 100000 in
set_option maxHeartbeats 1000000 in
theorem q_X11_act_104 {D0 : Nat → Nat → Nat} {S0 S' : Ss} {r : Unit} {Q : St → Prop} (hq : ∀ D σ S, RC D σ S → zle S0 S → DX S0 D0 D → (mret ()).1 S = some (r, S') → Q σ) : ∀ (D : Nat → Nat → Nat) (σ : St) (S : Ss) (a0 : Nat) (a1 : Nat) (i1 : Nat) (x4 : Int32) (x5 : Int32), RC D σ S → zle S0 S → DX S0 D0 D → AT D S 11 0 a0 → AT D S 8 i1 a1 → (f_X11_act_104 i1 x4 x5).1 S = some (r, S') → ∀ k n : Nat, zN S' 61 ≤ zN S 61 + k → zN S' 62 ≤ zN S 62 + n → w_X11_act_104 Q  a0 a1 x4 x5 σ k n := by
  intro D σ S a0 a1 i1 x4 x5 h L0 X0 A0 A1 hp k n hk hn
  unfold f_X11_act_104 at hp
  unfold w_X11_act_104
  replace hp := mrd_some hp
  refine ⟨fun c => ?_, fun c => ?_⟩
  · rw [h.int 801 8 rfl (by decide) A1] at c
    replace hp := mif_f hp c
    obtain ⟨r64, S65, e65, L65, hp⟩ := mb_some hp
    refine q_X11_robotIn h A0 e65 (fun D65 s65 o64 h65 X65 B64 => ?_)
    have hk := bup hk (L65 61)
    have hn := bup hn (L65 62)
    have X0 := X0.tr L0 X65
    have L0 := L0.tr L65
    refine ⟨fun c => ?_, fun a67 c => ?_⟩
    · replace hp := mcase_n hp (B64.no c)
      intro s69 es69
      have A1_s65 := A1.up L65 X65
      obtain ⟨S69, z69, L69, hp⟩ := mst_some hp
      have h69 := h65.wI (rfl : 801 / 100 = 8) (by decide) (by decide) A1_s65 es69
      rw [z69] at h69
      have L0 := L0.tr L69
      have hk := bup hk (L69 61)
      have hn := bup hn (L69 62)
      intro s70 es70
      have A1_s69 := A1_s65.up L69 (DX.rf _ _)
      obtain ⟨S70, z70, L70, hp⟩ := mst_some hp
      have h70 := h69.wI (rfl : 802 / 100 = 8) (by decide) (by decide) A1_s69 es70
      rw [z70] at h70
      have L0 := L0.tr L70
      have hk := bup hk (L70 61)
      have hn := bup hn (L70 62)
      exact hq _ _ _ h70 L0 X0 hp
    · obtain ⟨i67, e67, B67⟩ := B64.sa c
      replace hp := mcase_s hp e67
      intro s68 es68
      have A1_s65 := A1.up L65 X65
      obtain ⟨S68, z68, L68, hp⟩ := mst_some hp
      have h68 := h65.wI (rfl : 803 / 100 = 8) (by decide) (by decide) A1_s65 es68
      rw [z68] at h68
      have L0 := L0.tr L68
      have hk := bup hk (L68 61)
      have hn := bup hn (L68 62)
      exact hq _ _ _ h68 L0 X0 hp
  · rw [h.int 801 8 rfl (by decide) A1] at c
    replace hp := mif_t hp c
    refine ⟨fun c => ?_, fun c => ?_⟩
    · rw [h.int 802 8 rfl (by decide) A1] at c
      replace hp := mif_t hp c
      rw [h.int 802 8 rfl (by decide) A1]
      exact q_X11_act_132 hq  _ _ _ _ _ _ _ h L0 X0 A1 hp _ _ hk hn
    · rw [h.int 802 8 rfl (by decide) A1] at c
      replace hp := mif_f hp c
      rw [h.int 802 8 rfl (by decide) A1]
      exact q_X11_act_132 hq  _ _ _ _ _ _ _ h L0 X0 A1 hp _ _ hk hn
set_option maxRecDepth 100000 in
set_option maxHeartbeats 1000000 in
theorem q_X11_act_66 {D0 : Nat → Nat → Nat} {S0 S' : Ss} {r : Unit} {Q : St → Prop} (hq : ∀ D σ S, RC D σ S → zle S0 S → DX S0 D0 D → (mret ()).1 S = some (r, S') → Q σ) : ∀ (D : Nat → Nat → Nat) (σ : St) (S : Ss) (a0 : Nat) (a1 : Nat) (i1 : Nat) (o2 : Option Nat) (r2 : Option Nat) (x3 : Int32) (x4 : Int32) (x5 : Int32), RC D σ S → zle S0 S → DX S0 D0 D → AT D S 11 0 a0 → AT D S 8 i1 a1 → ATo D S 10 r2 o2 → (f_X11_act_66 i1 r2 x3 x4 x5).1 S = some (r, S') → ∀ k n : Nat, zN S' 61 ≤ zN S 61 + k → zN S' 62 ≤ zN S 62 + n → w_X11_act_66 Q  a0 a1 o2 x3 x4 x5 σ k n := by
  intro D σ S a0 a1 i1 o2 r2 x3 x4 x5 h L0 X0 A0 A1 A2 hp k n hk hn
  unfold f_X11_act_66 at hp
  unfold w_X11_act_66
  replace hp := mrd_some hp
  refine ⟨fun c => ?_, fun c => ?_⟩
  · replace hp := mif_f hp c
    refine ⟨fun c => ?_, fun c => ?_⟩
    · rw [h.int 801 8 rfl (by decide) A1] at c
      replace hp := mif_f hp c
      exact q_X11_act_104 hq  _ _ _ _ _ _ _ _ h L0 X0 A0 A1 hp _ _ hk hn
    · rw [h.int 801 8 rfl (by decide) A1] at c
      replace hp := mif_t hp c
      refine ⟨fun c => ?_, fun c => ?_⟩
      · rw [h.int 802 8 rfl (by decide) A1] at c
        replace hp := mif_f hp c
        exact q_X11_act_104 hq  _ _ _ _ _ _ _ _ h L0 X0 A0 A1 hp _ _ hk hn
      · rw [h.int 802 8 rfl (by decide) A1] at c
        replace hp := mif_t hp c
        obtain ⟨i74, e74, hp⟩ := mopt_some hp
        obtain ⟨a74, p74, B74⟩ := A2.so e74
        refine ⟨a74, p74, ?_⟩
        obtain ⟨w76, S76, e76, L76, hp⟩ := mb_some hp
        have M76 := mle hp
        obtain ⟨k77, k79, f1, f2, hk⟩ := bud (L76 61) (M76 61) hk
        obtain ⟨n78, n80, g1, g2, hn⟩ := bud (L76 62) (M76 62) hn
        refine ⟨k77, n78, k79, n80, f1, g1, q_X11_doStationInSlot h A0 B74 e76 f2 g2 (fun D76 s76 h76 X76 => ?_)⟩
        have X0 := X0.tr L0 X76
        have L0 := L0.tr L76
        exact hq _ _ _ h76 L0 X0 hp
  · replace hp := mif_t hp c
    obtain ⟨w84, S84, e84, L84, hp⟩ := mb_some hp
    refine q_X8_goToFront h A1 e84 (fun D84 s84 h84 X84 => ?_)
    have hk := bup hk (L84 61)
    have hn := bup hn (L84 62)
    have X0 := X0.tr L0 X84
    have L0 := L0.tr L84
    exact hq _ _ _ h84 L0 X0 hp
set_option maxRecDepth 100000 in
set_option maxHeartbeats 1000000 in
theorem q_X11_act_37 {D0 : Nat → Nat → Nat} {S0 S' : Ss} {r : Unit} {Q : St → Prop} (hq : ∀ D σ S, RC D σ S → zle S0 S → DX S0 D0 D → (mret ()).1 S = some (r, S') → Q σ) : ∀ (D : Nat → Nat → Nat) (σ : St) (S : Ss) (a0 : Nat) (a1 : Nat) (i1 : Nat) (o2 : Option Nat) (r2 : Option Nat) (x3 : Int32) (xs0 : Int32), RC D σ S → zle S0 S → DX S0 D0 D → AT D S 11 0 a0 → AT D S 8 i1 a1 → ATo D S 10 r2 o2 → (f_X11_act_37 i1 r2 x3 xs0).1 S = some (r, S') → ∀ k n : Nat, zN S' 61 ≤ zN S 61 + k → zN S' 62 ≤ zN S 62 + n → w_X11_act_37 Q  a0 a1 o2 x3 xs0 σ k n := by
  intro D σ S a0 a1 i1 o2 r2 x3 xs0 h L0 X0 A0 A1 A2 hp k n hk hn
  unfold f_X11_act_37 at hp
  unfold w_X11_act_37
  replace hp := mrd_some hp
  intro x59 hx59
  obtain ⟨yx59, ex59, hp⟩ := mbo_some hp
  obtain rfl : yx59 = x59 := ex59.trans hx59.symm
  refine ⟨fun c => ?_, fun c => ?_⟩
  · replace hp := mif_f hp c
    exact q_X11_act_66 hq  _ _ _ _ _ _ _ _ _ _ _ h L0 X0 A0 A1 A2 hp _ _ hk hn
  · replace hp := mif_t hp c
    refine ⟨fun c => ?_, fun c => ?_⟩
    · rw [h.int 801 8 rfl (by decide) A1] at c
      replace hp := mif_f hp c
      exact q_X11_act_66 hq  _ _ _ _ _ _ _ _ _ _ _ h L0 X0 A0 A1 A2 hp _ _ hk hn
    · rw [h.int 801 8 rfl (by decide) A1] at c
      replace hp := mif_t hp c
      obtain ⟨i86, e86, hp⟩ := mopt_some hp
      obtain ⟨a86, p86, B86⟩ := A2.so e86
      refine ⟨a86, p86, ?_⟩
      intro s87 es87
      obtain ⟨S87, z87, L87, hp⟩ := mst_some hp
      have h87 := h.wI (rfl : 1006 / 100 = 10) (by decide) (by decide) B86 es87
      rw [z87] at h87
      have L0 := L0.tr L87
      have hk := bup hk (L87 61)
      have hn := bup hn (L87 62)
      exact hq _ _ _ h87 L0 X0 hp
set_option maxRecDepth 100000 in
set_option maxHeartbeats 1000000 in
theorem q_X11_act {D : Nat → Nat → Nat} {σ : St} {S S' : Ss} {a0 : Nat} {a1 : Nat} {i1 : Nat} {r : Unit} (h : RC D σ S) (A0 : AT D S 11 0 a0) (A1 : AT D S 8 i1 a1) (hp : (f_X11_act i1).1 S = some (r, S')) {k n : Nat} (hk : zN S' 61 ≤ zN S 61 + k) (hn : zN S' 62 ≤ zN S 62 + n) {Q : St → Prop} (hq : ∀ D' τ, RC D' τ S' → DX S D D' → Q τ) : w_X11_act k n a0 a1 σ Q := by
  have L0 := zle.rf S
  have X0 := DX.rf S D
  replace hq : ∀ D9 σ9 S9, RC D9 σ9 S9 → zle S S9 → DX S D D9 → (mret ()).1 S9 = some (r, S') → Q σ9 := fun D9 σ9 S9 h9 _ X9 e9 => by obtain ⟨rfl, rfl⟩ := mret_some e9; exact hq D9 σ9 h9 X9
  unfold f_X11_act at hp
  unfold w_X11_act
  intro s51 es51
  obtain ⟨S51, z51, L51, hp⟩ := mst_some hp
  have h51 := h.wI (rfl : 803 / 100 = 8) (by decide) (by decide) A1 es51
  rw [z51] at h51
  have L0 := L0.tr L51
  have hk := bup hk (L51 61)
  have hn := bup hn (L51 62)
  have A1_s51 := A1.up L51 (DX.rf _ _)
  obtain ⟨r52, S53, e53, L53, hp⟩ := mb_some hp
  refine q_X8_firstTask h51 A1_s51 e53 (fun D53 s53 o52 h53 X53 B52 => ?_)
  have hk := bup hk (L53 61)
  have hn := bup hn (L53 62)
  have X0 := X0.tr L0 X53
  have L0 := L0.tr L53
  refine ⟨fun c => ?_, fun a55 c => ?_⟩
  · replace hp := mcase_n hp (B52.no c)
    have A1_s53 := A1_s51.up L53 X53
    obtain ⟨w89, S89, e89, L89, hp⟩ := mb_some hp
    refine q_X8_goToFront h53 A1_s53 e89 (fun D89 s89 h89 X89 => ?_)
    have hk := bup hk (L89 61)
    have hn := bup hn (L89 62)
    have X0 := X0.tr L0 X89
    have L0 := L0.tr L89
    exact hq _ _ _ h89 L0 X0 hp
  · obtain ⟨i55, e55, B55⟩ := B52.sa c
    replace hp := mcase_s hp e55
    obtain ⟨x56, S57, e57, L57, hp⟩ := mb_some hp
    refine q_X10_nextStation h53 B55 e57 (fun D57 s57 h57 X57 => ?_)
    have hk := bup hk (L57 61)
    have hn := bup hn (L57 62)
    have X0 := X0.tr L0 X57
    have L0 := L0.tr L57
    refine ⟨fun c => ?_, fun c => ?_⟩
    · replace hp := mif_f hp c
      have A0_s51 := A0.up L51 (DX.rf _ _)
      have A0_s53 := A0_s51.up L53 X53
      have A0_s57 := A0_s53.up L57 X57
      have A1_s53 := A1_s51.up L53 X53
      have A1_s57 := A1_s53.up L57 X57
      have B55_s57 := B55.up L57 X57
      exact q_X11_act_37 hq  _ _ _ _ _ _ _ _ _ _ h57 L0 X0 A0_s57 A1_s57 (B55_s57.sm) hp _ _ hk hn
    · replace hp := mif_t hp c
      have A0_s51 := A0.up L51 (DX.rf _ _)
      have A0_s53 := A0_s51.up L53 X53
      have A0_s57 := A0_s53.up L57 X57
      have A1_s53 := A1_s51.up L53 X53
      have A1_s57 := A1_s53.up L57 X57
      have B55_s57 := B55.up L57 X57
      exact q_X11_act_37 hq  _ _ _ _ _ _ _ _ _ _ h57 L0 X0 A0_s57 A1_s57 (B55_s57.sm) hp _ _ hk hn
set_option maxRecDepth 100000 in
set_option maxHeartbeats 1000000 in
theorem q_X11_hold {D : Nat → Nat → Nat} {σ : St} {S S' : Ss} {a0 : Nat} {o1 : Option Nat} {r1 : Option Nat} {o2 : Option Nat} {r2 : Option Nat} {x3 : Int32} {a4 : Nat} {i4 : Nat} {x5 : Int32} {r : Option Nat} (h : RC D σ S) (A0 : AT D S 11 0 a0) (A1 : ATo D S 7 r1 o1) (A2 : ATo D S 4 r2 o2) (A4 : AT D S 5 i4 a4) (hp : (f_X11_hold r1 r2 x3 i4 x5).1 S = some (r, S')) {k n : Nat} (hk : zN S' 61 ≤ zN S 61 + k) (hn : zN S' 62 ≤ zN S 62 + n) {Q : Option Nat → St → Prop} (hq : ∀ D' τ o, RC D' τ S' → DX S D D' → ATo D' S' 2 r o → Q o τ) : w_X11_hold k n a0 o1 o2 x3 a4 x5 σ Q := by
  have L0 := zle.rf S
  have X0 := DX.rf S D
  replace hq : ∀ D9 σ9 S9 x o, RC D9 σ9 S9 → zle S S9 → DX S D D9 → ATo D9 S9 2 x o → (mret x).1 S9 = some (r, S') → Q o σ9 := fun D9 σ9 S9 x o h9 _ X9 B9 e9 => by obtain ⟨rfl, rfl⟩ := mret_some e9; exact hq D9 σ9 o h9 X9 B9
  unfold f_X11_hold at hp
  unfold w_X11_hold
  obtain ⟨S56, i56, z56, j56, L56, hp⟩ := mnew_some hp
  have M56 := mle hp
  rw [← z56] at M56
  obtain ⟨k51, n52, f56, g56, hk, hn⟩ := q_new h (by decide) M56 hk hn
  rw [z56] at hk hn
  refine ⟨k51, n52, f56, g56, fun a55 s56 w56 e56 => ?_⟩
  obtain ⟨D56, h56, X56, B56⟩ := h.nwO (n := 6) (show 2 = 2 ∨ 2 = 4 ∨ 2 = 5 ∨ 2 = 6 ∨ 2 = 7 ∨ 2 = 10 by decide) w56 e56
  rw [z56] at h56 B56
  rw [j56] at B56
  have L0p := L0
  have L0 := L0.tr L56
  have X0 := X0.tr L0p X56
  have A1_s56 := A1.up L56 X56
  have A2_s56 := A2.up L56 X56
  have A4_s56 := A4.up L56 X56
  obtain ⟨w58, S58, e58, L58, hp⟩ := mb_some hp
  refine q_X2_init h56 B56 A1_s56 A2_s56 A4_s56 e58 (fun D58 s58 h58 X58 => ?_)
  have hk := bup hk (L58 61)
  have hn := bup hn (L58 62)
  have X0 := X0.tr L0 X58
  have L0 := L0.tr L58
  have A0_s56 := A0.up L56 X56
  have A0_s58 := A0_s56.up L58 X58
  intro o59 ho59
  obtain ⟨b59, p59, B59⟩ := h58.lis 1107 11 2 rfl A0_s58 ((lv_o (by decide)).mp A0_s58.1) ho59
  refine ⟨b59, p59, ?_⟩
  have B56_s58 := B56.up L58 X58
  obtain ⟨u62, S62, z62, L62, hp⟩ := mladd_some hp
  have M62 := mle hp
  obtain ⟨k63, k65, f1, f2, hk⟩ := bud (L62 61) (M62 61) hk
  obtain ⟨n64, n66, g1, g2, hn⟩ := bud (L62 62) (M62 62) hn
  refine ⟨k63, n64, k65, n66, f1, g1, q_ladd h58 (show lF 1107 11 2 = true from rfl) B59 B56_s58 u62 (by rw [z62]; exact f2) (by rw [z62]; exact g2) (fun s62 h62 => ?_)⟩
  rw [z62] at h62
  have L0 := L0.tr L62
  replace hp := mrd_some hp
  have A0_s62 := A0_s58.up L62 (DX.rf _ _)
  intro o69 ho69
  obtain ⟨b69, p69, B69⟩ := h62.bok A0_s62 ho69
  refine ⟨b69, p69, ?_⟩
  intro o71 ho71
  obtain ⟨b71, p71, B71⟩ := h62.cel 3 0 rfl B69 ho71
  refine ⟨b71, p71, ?_⟩
  have A4_s58 := A4_s56.up L58 X58
  have A4_s62 := A4_s58.up L62 (DX.rf _ _)
  rw [h62.int 500 5 rfl (by decide) A4_s62]
  obtain ⟨S74, z74, L74, hp⟩ := mst_some hp
  refine q_addc h62 (show cF 3 0 = true from rfl) B71 (fun s74 h74 => ?_)
  rw [z74] at h74
  have L0 := L0.tr L74
  have hk := bup hk (L74 61)
  have hn := bup hn (L74 62)
  replace hp := mrd_some hp
  have A2_s58 := A2_s56.up L58 X58
  have A2_s62 := A2_s58.up L62 (DX.rf _ _)
  have A2_s74 := A2_s62.up L74 (DX.rf _ _)
  refine ⟨fun c => ?_, fun a76 c => ?_⟩
  · replace hp := mcase_n hp (A2_s74.no c)
    have B56_s62 := B56_s58.up L62 (DX.rf _ _)
    have B56_s74 := B56_s62.up L74 (DX.rf _ _)
    exact hq _ _ _ _ _ h74 L0 X0 (B56_s74.sm) hp
  · obtain ⟨i76, e76, B76⟩ := A2_s74.sa c
    replace hp := mcase_s hp e76
    intro s77 es77
    rw [h74.int 402 4 rfl (by decide) B76] at es77
    obtain ⟨S77, z77, L77, hp⟩ := mst_some hp
    have h77 := h74.wI (rfl : 402 / 100 = 4) (by decide) (by decide) B76 es77
    rw [z77] at h77
    have L0 := L0.tr L77
    have hk := bup hk (L77 61)
    have hn := bup hn (L77 62)
    have B56_s62 := B56_s58.up L62 (DX.rf _ _)
    have B56_s74 := B56_s62.up L74 (DX.rf _ _)
    have B56_s77 := B56_s74.up L77 (DX.rf _ _)
    exact hq _ _ _ _ _ h77 L0 X0 (B56_s77.sm) hp
set_option maxRecDepth 100000 in
set_option maxHeartbeats 1000000 in
theorem q_X11_line {D : Nat → Nat → Nat} {σ : St} {S S' : Ss} {a0 : Nat} {x1 : Int32} {x2 : Int32} {x3 : Int32} {r : Nat × Int32} (h : RC D σ S) (A0 : AT D S 11 0 a0) (hp : (f_X11_line x1 x2 x3).1 S = some (r, S')) {k n : Nat} (hk : zN S' 61 ≤ zN S 61 + k) (hn : zN S' 62 ≤ zN S 62 + n) {Q : Int32 → St → Prop} (hq : ∀ D' τ, RC D' τ S' → DX S D D' → r.1 = 0 → Q r.2 τ) {Y : Nat → St → Prop} (hy : ∀ D' τ u, RC D' τ S' → DX S D D' → r.1 = u → ¬ u = 0 → Y u τ) : w_X11_line k n a0 x1 x2 x3 σ Q Y := by
  have L0 := zle.rf S
  have X0 := DX.rf S D
  replace hq : ∀ D9 σ9 S9 x, RC D9 σ9 S9 → zle S S9 → DX S D D9 → (mret (0, x)).1 S9 = some (r, S') → Q x σ9 := fun D9 σ9 S9 x h9 _ X9 e9 => by obtain ⟨rfl, rfl⟩ := mret_some e9; exact hq D9 σ9 h9 X9 rfl
  replace hy : ∀ D9 σ9 S9 u, RC D9 σ9 S9 → zle S S9 → DX S D D9 → (mthr u).1 S9 = some (r, S') → ¬ u = 0 → Y u σ9 := fun D9 σ9 S9 u h9 _ X9 e9 n9 => by cases e9; exact hy D9 σ9 u (h9.cost _ _) X9 rfl n9
  unfold f_X11_line at hp
  unfold w_X11_line
  obtain ⟨x51, S52, e52, L52, hp⟩ := mb_some hp
  refine q_X11_isOrder h A0 e52 (fun D52 s52 h52 X52 => ?_)
  have hk := bup hk (L52 61)
  have hn := bup hn (L52 62)
  have X0 := X0.tr L0 X52
  have L0 := L0.tr L52
  refine ⟨fun c => ?_, fun c => ?_⟩
  · replace hp := mif_t hp c
    have hb := mthr_b hp hk hn
    exact ⟨hb.1, hb.2, hy _ _ _ _ h52 L0 X0 hp (by decide)⟩
  · replace hp := mif_f hp c
    obtain ⟨x54, S55, e55, L55, hp⟩ := mb_some hp
    refine q_X11_isItem h52  e55 (fun D55 s55 h55 X55 => ?_)
    have hk := bup hk (L55 61)
    have hn := bup hn (L55 62)
    have X0 := X0.tr L0 X55
    have L0 := L0.tr L55
    refine ⟨fun c => ?_, fun c => ?_⟩
    · replace hp := mif_f hp c
      obtain ⟨x57, S58, e58, L58, hp⟩ := mb_some hp
      refine q_X11_isWithin h55  e58 (fun D58 s58 h58 X58 => ?_)
      have hk := bup hk (L58 61)
      have hn := bup hn (L58 62)
      have X0 := X0.tr L0 X58
      have L0 := L0.tr L58
      replace hp := mrd_some hp
      refine ⟨fun c => ?_, fun c => ?_⟩
      · replace hp := mif_f hp c
        have A0_s52 := A0.up L52 X52
        have A0_s55 := A0_s52.up L55 X55
        have A0_s58 := A0_s55.up L58 X58
        intro o60 ho60
        obtain ⟨b60, p60, B60⟩ := h58.lis 1106 11 7 rfl A0_s58 ((lv_o (by decide)).mp A0_s58.1) ho60
        refine ⟨b60, p60, ?_⟩
        obtain ⟨i62, e62, hp⟩ := mlget_some hp
        refine q_get h58 (show lF 1106 11 7 = true from rfl) B60 e62 (fun b62 B62 => ?_)
        refine ⟨b62, rfl, ?_⟩
        refine ⟨h58.ob (by decide) B62, ?_⟩
        intro o66 ho66
        obtain ⟨g66, hp⟩ := mgd_some hp
        obtain ⟨b66, p66, B66⟩ := h58.lis 704 7 4 rfl B62 (of_decide_eq_true g66) ho66
        refine ⟨b66, p66, ?_⟩
        obtain ⟨x68, ex68, hp⟩ := mbo_some hp
        refine q_size h58 (show lF 704 7 4 = true from rfl) B66 ex68 ?_
        refine ⟨fun c => ?_, fun c => ?_⟩
        · replace hp := mif_t hp c
          have hb := mthr_b hp hk hn
          exact ⟨hb.1, hb.2, hy _ _ _ _ h58 L0 X0 hp (by decide)⟩
        · replace hp := mif_f hp c
          refine ⟨fun c => ?_, fun c => ?_⟩
          · rw [h58.int 705 7 rfl (by decide) B62] at c
            replace hp := mif_t hp c
            intro o72 ho72
            obtain ⟨g72, hp⟩ := mgd_some hp
            obtain ⟨b72, p72, B72⟩ := h58.lis 704 7 4 rfl B62 (of_decide_eq_true g72) ho72
            obtain ⟨S78, i78, z78, j78, L78, hp⟩ := mnew_some hp
            have M78 := mle hp
            rw [← z78] at M78
            obtain ⟨k73, n74, f78, g78, hk, hn⟩ := q_new h58 (by decide) M78 hk hn
            rw [z78] at hk hn
            refine ⟨k73, n74, f78, g78, fun a77 s78 w78 e78 => ?_⟩
            obtain ⟨D78, h78, X78, B78⟩ := h58.nwO (n := 4) (show 4 = 2 ∨ 4 = 4 ∨ 4 = 5 ∨ 4 = 6 ∨ 4 = 7 ∨ 4 = 10 by decide) w78 e78
            rw [z78] at h78 B78
            rw [j78] at B78
            have L0p := L0
            have L0 := L0.tr L78
            have X0 := X0.tr L0p X78
            have A0_s78 := A0_s58.up L78 X78
            intro o79 ho79
            obtain ⟨b79, p79, B79⟩ := h78.arr 1101 3 rfl A0_s78 ho79
            refine ⟨b79, p79, ?_⟩
            obtain ⟨v_1, hp⟩ := mix_some hp
            refine ⟨by rw [h78.aln 1101 3 rfl B79]; exact v_1, ?_⟩
            intro o82 ho82
            have C82 := h78.ael 1101 3 rfl B79 v_1
            rw [← ho82] at C82
            obtain ⟨b82, p82, B82⟩ := C82.so rfl
            refine ⟨b82, p82, ?_⟩
            obtain ⟨w85, S85, e85, L85, hp⟩ := mb_some hp
            refine q_X4_init h78 B78 B82 e85 (fun D85 s85 h85 X85 => ?_)
            have hk := bup hk (L85 61)
            have hn := bup hn (L85 62)
            have X0 := X0.tr L0 X85
            have L0 := L0.tr L85
            refine ⟨b72, p72, ?_⟩
            have B72_s78 := B72.up L78 X78
            have B72_s85 := B72_s78.up L85 X85
            have B78_s85 := B78.up L85 X85
            obtain ⟨u88, S88, z88, L88, hp⟩ := mladd_some hp
            have M88 := mle hp
            obtain ⟨k89, k91, f1, f2, hk⟩ := bud (L88 61) (M88 61) hk
            obtain ⟨n90, n92, g1, g2, hn⟩ := bud (L88 62) (M88 62) hn
            refine ⟨k89, n90, k91, n92, f1, g1, q_ladd h85 (show lF 704 7 4 = true from rfl) B72_s85 B78_s85 u88 (by rw [z88]; exact f2) (by rw [z88]; exact g2) (fun s88 h88 => ?_)⟩
            rw [z88] at h88
            have L0 := L0.tr L88
            replace hp := mrd_some hp
            have B62_s78 := B62.up L78 X78
            have B62_s85 := B62_s78.up L85 X85
            have B62_s88 := B62_s85.up L88 (DX.rf _ _)
            intro o95 ho95
            obtain ⟨g95, hp⟩ := mgd_some hp
            obtain ⟨b95, p95, B95⟩ := h88.lis 704 7 4 rfl B62_s88 (of_decide_eq_true g95) ho95
            refine ⟨b95, p95, ?_⟩
            obtain ⟨x97, ex97, hp⟩ := mbo_some hp
            refine q_size h88 (show lF 704 7 4 = true from rfl) B95 ex97 ?_
            exact hq _ _ _ _ h88 L0 X0 hp
          · rw [h58.int 705 7 rfl (by decide) B62] at c
            replace hp := mif_f hp c
            have hb := mthr_b hp hk hn
            exact ⟨hb.1, hb.2, hy _ _ _ _ h58 L0 X0 hp (by decide)⟩
      · replace hp := mif_t hp c
        have hb := mthr_b hp hk hn
        exact ⟨hb.1, hb.2, hy _ _ _ _ h58 L0 X0 hp (by decide)⟩
    · replace hp := mif_t hp c
      have hb := mthr_b hp hk hn
      exact ⟨hb.1, hb.2, hy _ _ _ _ h55 L0 X0 hp (by decide)⟩
set_option maxRecDepth 100000 in
set_option maxHeartbeats 1000000 in
theorem q_X11_lot_116 {D0 : Nat → Nat → Nat} {S0 S' : Ss} {r : Nat × Int32} {Q : Int32 → St → Prop} (hq : ∀ D σ S x, RC D σ S → zle S0 S → DX S0 D0 D → (mret (0, x)).1 S = some (r, S') → Q x σ) {Y : Nat → St → Prop} (hy : ∀ D σ S u, RC D σ S → zle S0 S → DX S0 D0 D → (mthr u).1 S = some (r, S') → ¬ u = 0 → Y u σ) : ∀ (D : Nat → Nat → Nat) (σ : St) (S : Ss) (a0 : Nat) (a3 : Nat) (i3 : Nat) (x4 : Int32), RC D σ S → zle S0 S → DX S0 D0 D → AT D S 11 0 a0 → AT D S 5 i3 a3 → (f_X11_lot_116 i3 x4).1 S = some (r, S') → ∀ k n : Nat, zN S' 61 ≤ zN S 61 + k → zN S' 62 ≤ zN S 62 + n → w_X11_lot_116 Q Y  a0 a3 x4 σ k n := by
  intro D σ S a0 a3 i3 x4 h L0 X0 A0 A3 hp k n hk hn
  unfold f_X11_lot_116 at hp
  unfold w_X11_lot_116
  intro o84 ho84
  obtain ⟨b84, p84, B84⟩ := h.lis 1104 11 5 rfl A0 ((lv_o (by decide)).mp A0.1) ho84
  refine ⟨b84, p84, ?_⟩
  obtain ⟨u87, S87, z87, L87, hp⟩ := mlins_some hp
  have M87 := mle hp
  obtain ⟨k88, k90, f1, f2, hk⟩ := bud (L87 61) (M87 61) hk
  obtain ⟨n89, n91, g1, g2, hn⟩ := bud (L87 62) (M87 62) hn
  refine ⟨k88, n89, k90, n91, f1, g1, q_lins h (show lF 1104 11 5 = true from rfl) B84 A3 u87 (by rw [z87]; exact f2) (by rw [z87]; exact g2) (fun s87 h87 => ?_)⟩
  rw [z87] at h87
  have L0 := L0.tr L87
  have A0_s87 := A0.up L87 (DX.rf _ _)
  intro o94 ho94
  obtain ⟨b94, p94, B94⟩ := h87.lis 1103 11 5 rfl A0_s87 ((lv_o (by decide)).mp A0_s87.1) ho94
  refine ⟨b94, p94, ?_⟩
  have A3_s87 := A3.up L87 (DX.rf _ _)
  obtain ⟨u97, S97, z97, L97, hp⟩ := mladd_some hp
  have M97 := mle hp
  obtain ⟨k98, k100, f1, f2, hk⟩ := bud (L97 61) (M97 61) hk
  obtain ⟨n99, n101, g1, g2, hn⟩ := bud (L97 62) (M97 62) hn
  refine ⟨k98, n99, k100, n101, f1, g1, q_ladd h87 (show lF 1103 11 5 = true from rfl) B94 A3_s87 u97 (by rw [z97]; exact f2) (by rw [z97]; exact g2) (fun s97 h97 => ?_)⟩
  rw [z97] at h97
  have L0 := L0.tr L97
  replace hp := mrd_some hp
  have A3_s97 := A3_s87.up L97 (DX.rf _ _)
  rw [h97.int 500 5 rfl (by decide) A3_s97]
  exact hq _ _ _ _ h97 L0 X0 hp
set_option maxRecDepth 100000 in
set_option maxHeartbeats 1000000 in
theorem q_X11_lot_79 {D0 : Nat → Nat → Nat} {S0 S' : Ss} {r : Nat × Int32} {Q : Int32 → St → Prop} (hq : ∀ D σ S x, RC D σ S → zle S0 S → DX S0 D0 D → (mret (0, x)).1 S = some (r, S') → Q x σ) {Y : Nat → St → Prop} (hy : ∀ D σ S u, RC D σ S → zle S0 S → DX S0 D0 D → (mthr u).1 S = some (r, S') → ¬ u = 0 → Y u σ) : ∀ (f : Nat) (D : Nat → Nat → Nat) (σ : St) (S : Ss) (a0 : Nat) (x2 : Int32) (a3 : Nat) (i3 : Nat) (x4 : Int32), RC D σ S → zle S0 S → DX S0 D0 D → AT D S 11 0 a0 → AT D S 5 i3 a3 → (f_X11_lot_79 f x2 i3 x4).1 S = some (r, S') → ∀ k n : Nat, zN S' 61 ≤ zN S 61 + k → zN S' 62 ≤ zN S 62 + n → w_X11_lot_79 Q Y  f a0 x2 a3 x4 σ k n := by
  intro f
  induction f with
  | zero => intro D σ S a0 x2 a3 i3 x4 h L0 X0 A0 A3 hp k n hk hn; cases hp
  | succ f ih =>
    intro D σ S a0 x2 a3 i3 x4 h L0 X0 A0 A3 hp k n hk hn
    unfold f_X11_lot_79 at hp
    unfold w_X11_lot_79
    replace hp := mrd_some hp
    intro o79 ho79
    obtain ⟨b79, p79, B79⟩ := h.lis 1104 11 5 rfl A0 ((lv_o (by decide)).mp A0.1) ho79
    refine ⟨b79, p79, ?_⟩
    obtain ⟨x81, ex81, hp⟩ := mbo_some hp
    refine q_size h (show lF 1104 11 5 = true from rfl) B79 ex81 ?_
    refine ⟨fun c => ?_, fun c => ?_⟩
    · replace hp := mif_t hp c
      exact q_X11_lot_116 hq hy  _ _ _ _ _ _ _ h L0 X0 A0 A3 hp _ _ hk hn
    · replace hp := mif_f hp c
      intro o104 ho104
      obtain ⟨b104, p104, B104⟩ := h.lis 1104 11 5 rfl A0 ((lv_o (by decide)).mp A0.1) ho104
      refine ⟨b104, p104, ?_⟩
      obtain ⟨i106, e106, hp⟩ := mlget_some hp
      refine q_get h (show lF 1104 11 5 = true from rfl) B104 e106 (fun b106 B106 => ?_)
      refine ⟨b106, rfl, ?_⟩
      refine ⟨h.ob (by decide) B106, ?_⟩
      refine ⟨fun c => ?_, fun c => ?_⟩
      · rw [h.int 502 5 rfl (by decide) B106] at c
        replace hp := mif_t hp c
        exact q_X11_lot_116 hq hy  _ _ _ _ _ _ _ h L0 X0 A0 A3 hp _ _ hk hn
      · rw [h.int 502 5 rfl (by decide) B106] at c
        replace hp := mif_f hp c
        exact ih _ _ _ _ _ _ _ _ h L0 X0 A0 A3 hp _ _ hk hn
set_option maxRecDepth 100000 in
set_option maxHeartbeats 1000000 in
theorem q_X11_lot {D : Nat → Nat → Nat} {σ : St} {S S' : Ss} {a0 : Nat} {x1 : Int32} {x2 : Int32} {r : Nat × Int32} (h : RC D σ S) (A0 : AT D S 11 0 a0) (hp : (f_X11_lot x1 x2).1 S = some (r, S')) {k n : Nat} (hk : zN S' 61 ≤ zN S 61 + k) (hn : zN S' 62 ≤ zN S 62 + n) {Q : Int32 → St → Prop} (hq : ∀ D' τ, RC D' τ S' → DX S D D' → r.1 = 0 → Q r.2 τ) {Y : Nat → St → Prop} (hy : ∀ D' τ u, RC D' τ S' → DX S D D' → r.1 = u → ¬ u = 0 → Y u τ) : w_X11_lot k n a0 x1 x2 σ Q Y := by
  have L0 := zle.rf S
  have X0 := DX.rf S D
  replace hq : ∀ D9 σ9 S9 x, RC D9 σ9 S9 → zle S S9 → DX S D D9 → (mret (0, x)).1 S9 = some (r, S') → Q x σ9 := fun D9 σ9 S9 x h9 _ X9 e9 => by obtain ⟨rfl, rfl⟩ := mret_some e9; exact hq D9 σ9 h9 X9 rfl
  replace hy : ∀ D9 σ9 S9 u, RC D9 σ9 S9 → zle S S9 → DX S D D9 → (mthr u).1 S9 = some (r, S') → ¬ u = 0 → Y u σ9 := fun D9 σ9 S9 u h9 _ X9 e9 n9 => by cases e9; exact hy D9 σ9 u (h9.cost _ _) X9 rfl n9
  unfold f_X11_lot at hp
  unfold w_X11_lot
  obtain ⟨x51, S52, e52, L52, hp⟩ := mb_some hp
  refine q_X11_isItem h  e52 (fun D52 s52 h52 X52 => ?_)
  have hk := bup hk (L52 61)
  have hn := bup hn (L52 62)
  have X0 := X0.tr L0 X52
  have L0 := L0.tr L52
  refine ⟨fun c => ?_, fun c => ?_⟩
  · replace hp := mif_f hp c
    obtain ⟨x54, S55, e55, L55, hp⟩ := mb_some hp
    refine q_X11_isWithin h52  e55 (fun D55 s55 h55 X55 => ?_)
    have hk := bup hk (L55 61)
    have hn := bup hn (L55 62)
    have X0 := X0.tr L0 X55
    have L0 := L0.tr L55
    replace hp := mrd_some hp
    refine ⟨fun c => ?_, fun c => ?_⟩
    · replace hp := mif_f hp c
      have A0_s52 := A0.up L52 X52
      have A0_s55 := A0_s52.up L55 X55
      intro o57 ho57
      obtain ⟨b57, p57, B57⟩ := h55.lis 1103 11 5 rfl A0_s55 ((lv_o (by decide)).mp A0_s55.1) ho57
      refine ⟨b57, p57, ?_⟩
      obtain ⟨x59, ex59, hp⟩ := mbo_some hp
      refine q_size h55 (show lF 1103 11 5 = true from rfl) B57 ex59 ?_
      refine ⟨fun c => ?_, fun c => ?_⟩
      · replace hp := mif_t hp c
        obtain ⟨S67, i67, z67, j67, L67, hp⟩ := mnew_some hp
        have M67 := mle hp
        rw [← z67] at M67
        obtain ⟨k62, n63, f67, g67, hk, hn⟩ := q_new h55 (by decide) M67 hk hn
        rw [z67] at hk hn
        refine ⟨k62, n63, f67, g67, fun a66 s67 w67 e67 => ?_⟩
        obtain ⟨D67, h67, X67, B67⟩ := h55.nwO (n := 4) (show 5 = 2 ∨ 5 = 4 ∨ 5 = 5 ∨ 5 = 6 ∨ 5 = 7 ∨ 5 = 10 by decide) w67 e67
        rw [z67] at h67 B67
        rw [j67] at B67
        have L0p := L0
        have L0 := L0.tr L67
        have X0 := X0.tr L0p X67
        replace hp := mrd_some hp
        have A0_s67 := A0_s55.up L67 X67
        intro o68 ho68
        obtain ⟨b68, p68, B68⟩ := h67.lis 1103 11 5 rfl A0_s67 ((lv_o (by decide)).mp A0_s67.1) ho68
        refine ⟨b68, p68, ?_⟩
        obtain ⟨x70, ex70, hp⟩ := mbo_some hp
        refine q_size h67 (show lF 1103 11 5 = true from rfl) B68 ex70 ?_
        intro o72 ho72
        obtain ⟨b72, p72, B72⟩ := h67.arr 1101 3 rfl A0_s67 ho72
        refine ⟨b72, p72, ?_⟩
        obtain ⟨v_1, hp⟩ := mix_some hp
        refine ⟨by rw [h67.aln 1101 3 rfl B72]; exact v_1, ?_⟩
        intro o75 ho75
        have C75 := h67.ael 1101 3 rfl B72 v_1
        rw [← ho75] at C75
        obtain ⟨b75, p75, B75⟩ := C75.so rfl
        refine ⟨b75, p75, ?_⟩
        obtain ⟨w78, S78, e78, L78, hp⟩ := mb_some hp
        refine q_X5_init h67 B67 B75 e78 (fun D78 s78 h78 X78 => ?_)
        have hk := bup hk (L78 61)
        have hn := bup hn (L78 62)
        have X0 := X0.tr L0 X78
        have L0 := L0.tr L78
        refine ⟨FU, ?_⟩
        have A0_s78 := A0_s67.up L78 X78
        have B67_s78 := B67.up L78 X78
        exact q_X11_lot_79 hq hy FU _ _ _ _ _ _ _ _ h78 L0 X0 A0_s78 B67_s78 hp _ _ hk hn
      · replace hp := mif_f hp c
        have hb := mthr_b hp hk hn
        exact ⟨hb.1, hb.2, hy _ _ _ _ h55 L0 X0 hp (by decide)⟩
    · replace hp := mif_t hp c
      have hb := mthr_b hp hk hn
      exact ⟨hb.1, hb.2, hy _ _ _ _ h55 L0 X0 hp (by decide)⟩
  · replace hp := mif_t hp c
    have hb := mthr_b hp hk hn
    exact ⟨hb.1, hb.2, hy _ _ _ _ h52 L0 X0 hp (by decide)⟩
set_option maxRecDepth 100000 in
set_option maxHeartbeats 1000000 in
theorem q_X11_makeTask {D : Nat → Nat → Nat} {σ : St} {S S' : Ss} {a0 : Nat} {x1 : Int32} {a2 : Nat} {i2 : Nat} {x3 : Int32} {r : Option Nat} (h : RC D σ S) (A0 : AT D S 11 0 a0) (A2 : AT D S 2 i2 a2) (hp : (f_X11_makeTask x1 i2 x3).1 S = some (r, S')) {k n : Nat} (hk : zN S' 61 ≤ zN S 61 + k) (hn : zN S' 62 ≤ zN S 62 + n) {Q : Option Nat → St → Prop} (hq : ∀ D' τ o, RC D' τ S' → DX S D D' → ATo D' S' 10 r o → Q o τ) : w_X11_makeTask k n a0 x1 a2 x3 σ Q := by
  have L0 := zle.rf S
  have X0 := DX.rf S D
  replace hq : ∀ D9 σ9 S9 x o, RC D9 σ9 S9 → zle S S9 → DX S D D9 → ATo D9 S9 10 x o → (mret x).1 S9 = some (r, S') → Q o σ9 := fun D9 σ9 S9 x o h9 _ X9 B9 e9 => by obtain ⟨rfl, rfl⟩ := mret_some e9; exact hq D9 σ9 o h9 X9 B9
  unfold f_X11_makeTask at hp
  unfold w_X11_makeTask
  obtain ⟨S56, i56, z56, j56, L56, hp⟩ := mnew_some hp
  have M56 := mle hp
  rw [← z56] at M56
  obtain ⟨k51, n52, f56, g56, hk, hn⟩ := q_new h (by decide) M56 hk hn
  rw [z56] at hk hn
  refine ⟨k51, n52, f56, g56, fun a55 s56 w56 e56 => ?_⟩
  obtain ⟨D56, h56, X56, B56⟩ := h.nwO (n := 7) (show 10 = 2 ∨ 10 = 4 ∨ 10 = 5 ∨ 10 = 6 ∨ 10 = 7 ∨ 10 = 10 by decide) w56 e56
  rw [z56] at h56 B56
  rw [j56] at B56
  have L0p := L0
  have L0 := L0.tr L56
  have X0 := X0.tr L0p X56
  replace hp := mrd_some hp
  have A0_s56 := A0.up L56 X56
  intro o57 ho57
  obtain ⟨b57, p57, B57⟩ := h56.lis 1108 11 10 rfl A0_s56 ((lv_o (by decide)).mp A0_s56.1) ho57
  refine ⟨b57, p57, ?_⟩
  obtain ⟨x59, ex59, hp⟩ := mbo_some hp
  refine q_size h56 (show lF 1108 11 10 = true from rfl) B57 ex59 ?_
  have A2_s56 := A2.up L56 X56
  obtain ⟨w62, S62, e62, L62, hp⟩ := mb_some hp
  refine q_X10_init h56 B56 A2_s56 e62 (fun D62 s62 h62 X62 => ?_)
  have hk := bup hk (L62 61)
  have hn := bup hn (L62 62)
  have X0 := X0.tr L0 X62
  have L0 := L0.tr L62
  have A0_s62 := A0_s56.up L62 X62
  intro o63 ho63
  obtain ⟨b63, p63, B63⟩ := h62.lis 1108 11 10 rfl A0_s62 ((lv_o (by decide)).mp A0_s62.1) ho63
  refine ⟨b63, p63, ?_⟩
  have B56_s62 := B56.up L62 X62
  obtain ⟨u66, S66, z66, L66, hp⟩ := mladd_some hp
  have M66 := mle hp
  obtain ⟨k67, k69, f1, f2, hk⟩ := bud (L66 61) (M66 61) hk
  obtain ⟨n68, n70, g1, g2, hn⟩ := bud (L66 62) (M66 62) hn
  refine ⟨k67, n68, k69, n70, f1, g1, q_ladd h62 (show lF 1108 11 10 = true from rfl) B63 B56_s62 u66 (by rw [z66]; exact f2) (by rw [z66]; exact g2) (fun s66 h66 => ?_)⟩
  rw [z66] at h66
  have L0 := L0.tr L66
  intro s73 es73
  have A2_s62 := A2_s56.up L62 X62
  have A2_s66 := A2_s62.up L66 (DX.rf _ _)
  have B56_s66 := B56_s62.up L66 (DX.rf _ _)
  obtain ⟨S73, z73, L73, hp⟩ := mst_some hp
  have h73 := h66.wR (show rF 205 2 10 = true from rfl) A2_s66 (B56_s66.sm) es73
  rw [z73] at h73
  have L0 := L0.tr L73
  have hk := bup hk (L73 61)
  have hn := bup hn (L73 62)
  replace hp := mrd_some hp
  refine ⟨fun c => ?_, fun c => ?_⟩
  · replace hp := mif_t hp c
    have B56_s73 := B56_s66.up L73 (DX.rf _ _)
    exact hq _ _ _ _ _ h73 L0 X0 (B56_s73.sm) hp
  · replace hp := mif_f hp c
    have A0_s66 := A0_s62.up L66 (DX.rf _ _)
    have A0_s73 := A0_s66.up L73 (DX.rf _ _)
    intro o75 ho75
    obtain ⟨b75, p75, B75⟩ := h73.bok A0_s73 ho75
    refine ⟨b75, p75, ?_⟩
    intro o77 ho77
    obtain ⟨b77, p77, B77⟩ := h73.cel 4 0 rfl B75 ho77
    have A2_s73 := A2_s66.up L73 (DX.rf _ _)
    intro o78 ho78
    obtain ⟨r78, e78, hp⟩ := mbo_some hp
    have B78 := h73.refr 203 2 5 rfl A2_s73
    rw [← ho78, ← e78] at B78
    obtain ⟨i79, e79, hp⟩ := mopt_some hp
    obtain ⟨a79, p79, B79⟩ := B78.so e79
    refine ⟨a79, p79, ?_⟩
    intro o80 ho80
    obtain ⟨r80, e80, hp⟩ := mbo_some hp
    have B80 := h73.refr 501 5 3 rfl B79
    rw [← ho80, ← e80] at B80
    obtain ⟨i81, e81, hp⟩ := mopt_some hp
    obtain ⟨a81, p81, B81⟩ := B80.so e81
    refine ⟨a81, p81, ?_⟩
    refine ⟨b77, p77, ?_⟩
    rw [h73.int 300 3 rfl (by decide) B81, h73.int 204 2 rfl (by decide) A2_s73]
    obtain ⟨S84, z84, L84, hp⟩ := mst_some hp
    refine q_addc h73 (show cF 4 0 = true from rfl) B77 (fun s84 h84 => ?_)
    rw [z84] at h84
    have L0 := L0.tr L84
    have hk := bup hk (L84 61)
    have hn := bup hn (L84 62)
    have B56_s73 := B56_s66.up L73 (DX.rf _ _)
    have B56_s84 := B56_s73.up L84 (DX.rf _ _)
    exact hq _ _ _ _ _ h84 L0 X0 (B56_s84.sm) hp
set_option maxRecDepth 100000 in
set_option maxHeartbeats 1000000 in
theorem q_X11_notice {D : Nat → Nat → Nat} {σ : St} {S S' : Ss} {a0 : Nat} {x1 : Int32} {x2 : Int32} {r : Nat × Int32} (h : RC D σ S) (A0 : AT D S 11 0 a0) (hp : (f_X11_notice x1 x2).1 S = some (r, S')) {k n : Nat} (hk : zN S' 61 ≤ zN S 61 + k) (hn : zN S' 62 ≤ zN S 62 + n) {Q : Int32 → St → Prop} (hq : ∀ D' τ, RC D' τ S' → DX S D D' → r.1 = 0 → Q r.2 τ) {Y : Nat → St → Prop} (hy : ∀ D' τ u, RC D' τ S' → DX S D D' → r.1 = u → ¬ u = 0 → Y u τ) : w_X11_notice k n a0 x1 x2 σ Q Y := by
  have L0 := zle.rf S
  have X0 := DX.rf S D
  replace hq : ∀ D9 σ9 S9 x, RC D9 σ9 S9 → zle S S9 → DX S D D9 → (mret (0, x)).1 S9 = some (r, S') → Q x σ9 := fun D9 σ9 S9 x h9 _ X9 e9 => by obtain ⟨rfl, rfl⟩ := mret_some e9; exact hq D9 σ9 h9 X9 rfl
  replace hy : ∀ D9 σ9 S9 u, RC D9 σ9 S9 → zle S S9 → DX S D D9 → (mthr u).1 S9 = some (r, S') → ¬ u = 0 → Y u σ9 := fun D9 σ9 S9 u h9 _ X9 e9 n9 => by cases e9; exact hy D9 σ9 u (h9.cost _ _) X9 rfl n9
  unfold f_X11_notice at hp
  unfold w_X11_notice
  obtain ⟨x51, S52, e52, L52, hp⟩ := mb_some hp
  refine q_X11_isItem h  e52 (fun D52 s52 h52 X52 => ?_)
  have hk := bup hk (L52 61)
  have hn := bup hn (L52 62)
  have X0 := X0.tr L0 X52
  have L0 := L0.tr L52
  refine ⟨fun c => ?_, fun c => ?_⟩
  · replace hp := mif_f hp c
    obtain ⟨x54, S55, e55, L55, hp⟩ := mb_some hp
    refine q_X11_isWithin h52  e55 (fun D55 s55 h55 X55 => ?_)
    have hk := bup hk (L55 61)
    have hn := bup hn (L55 62)
    have X0 := X0.tr L0 X55
    have L0 := L0.tr L55
    replace hp := mrd_some hp
    refine ⟨fun c => ?_, fun c => ?_⟩
    · replace hp := mif_f hp c
      have A0_s52 := A0.up L52 X52
      have A0_s55 := A0_s52.up L55 X55
      intro o57 ho57
      obtain ⟨b57, p57, B57⟩ := h55.lis 1105 11 6 rfl A0_s55 ((lv_o (by decide)).mp A0_s55.1) ho57
      refine ⟨b57, p57, ?_⟩
      obtain ⟨x59, ex59, hp⟩ := mbo_some hp
      refine q_size h55 (show lF 1105 11 6 = true from rfl) B57 ex59 ?_
      refine ⟨fun c => ?_, fun c => ?_⟩
      · replace hp := mif_t hp c
        intro o62 ho62
        obtain ⟨b62, p62, B62⟩ := h55.lis 1105 11 6 rfl A0_s55 ((lv_o (by decide)).mp A0_s55.1) ho62
        obtain ⟨S68, i68, z68, j68, L68, hp⟩ := mnew_some hp
        have M68 := mle hp
        rw [← z68] at M68
        obtain ⟨k63, n64, f68, g68, hk, hn⟩ := q_new h55 (by decide) M68 hk hn
        rw [z68] at hk hn
        refine ⟨k63, n64, f68, g68, fun a67 s68 w68 e68 => ?_⟩
        obtain ⟨D68, h68, X68, B68⟩ := h55.nwO (n := 3) (show 6 = 2 ∨ 6 = 4 ∨ 6 = 5 ∨ 6 = 6 ∨ 6 = 7 ∨ 6 = 10 by decide) w68 e68
        rw [z68] at h68 B68
        rw [j68] at B68
        have L0p := L0
        have L0 := L0.tr L68
        have X0 := X0.tr L0p X68
        have A0_s68 := A0_s55.up L68 X68
        intro o69 ho69
        obtain ⟨b69, p69, B69⟩ := h68.arr 1101 3 rfl A0_s68 ho69
        refine ⟨b69, p69, ?_⟩
        obtain ⟨v_1, hp⟩ := mix_some hp
        refine ⟨by rw [h68.aln 1101 3 rfl B69]; exact v_1, ?_⟩
        intro o72 ho72
        have C72 := h68.ael 1101 3 rfl B69 v_1
        rw [← ho72] at C72
        obtain ⟨b72, p72, B72⟩ := C72.so rfl
        refine ⟨b72, p72, ?_⟩
        obtain ⟨w75, S75, e75, L75, hp⟩ := mb_some hp
        refine q_X6_init h68 B68 B72 e75 (fun D75 s75 h75 X75 => ?_)
        have hk := bup hk (L75 61)
        have hn := bup hn (L75 62)
        have X0 := X0.tr L0 X75
        have L0 := L0.tr L75
        refine ⟨b62, p62, ?_⟩
        have B62_s68 := B62.up L68 X68
        have B62_s75 := B62_s68.up L75 X75
        have B68_s75 := B68.up L75 X75
        obtain ⟨u78, S78, z78, L78, hp⟩ := mladd_some hp
        have M78 := mle hp
        obtain ⟨k79, k81, f1, f2, hk⟩ := bud (L78 61) (M78 61) hk
        obtain ⟨n80, n82, g1, g2, hn⟩ := bud (L78 62) (M78 62) hn
        refine ⟨k79, n80, k81, n82, f1, g1, q_ladd h75 (show lF 1105 11 6 = true from rfl) B62_s75 B68_s75 u78 (by rw [z78]; exact f2) (by rw [z78]; exact g2) (fun s78 h78 => ?_)⟩
        rw [z78] at h78
        have L0 := L0.tr L78
        replace hp := mrd_some hp
        have A0_s75 := A0_s68.up L75 X75
        have A0_s78 := A0_s75.up L78 (DX.rf _ _)
        intro o85 ho85
        obtain ⟨b85, p85, B85⟩ := h78.lis 1105 11 6 rfl A0_s78 ((lv_o (by decide)).mp A0_s78.1) ho85
        refine ⟨b85, p85, ?_⟩
        obtain ⟨x87, ex87, hp⟩ := mbo_some hp
        refine q_size h78 (show lF 1105 11 6 = true from rfl) B85 ex87 ?_
        exact hq _ _ _ _ h78 L0 X0 hp
      · replace hp := mif_f hp c
        have hb := mthr_b hp hk hn
        exact ⟨hb.1, hb.2, hy _ _ _ _ h55 L0 X0 hp (by decide)⟩
    · replace hp := mif_t hp c
      have hb := mthr_b hp hk hn
      exact ⟨hb.1, hb.2, hy _ _ _ _ h55 L0 X0 hp (by decide)⟩
  · replace hp := mif_t hp c
    have hb := mthr_b hp hk hn
    exact ⟨hb.1, hb.2, hy _ _ _ _ h52 L0 X0 hp (by decide)⟩
set_option maxRecDepth 100000 in
set_option maxHeartbeats 1000000 in
theorem q_X11_order {D : Nat → Nat → Nat} {σ : St} {S S' : Ss} {a0 : Nat} {x1 : Int32} {x2 : Int32} {x3 : Int32} {r : Nat × Int32} (h : RC D σ S) (A0 : AT D S 11 0 a0) (hp : (f_X11_order x1 x2 x3).1 S = some (r, S')) {k n : Nat} (hk : zN S' 61 ≤ zN S 61 + k) (hn : zN S' 62 ≤ zN S 62 + n) {Q : Int32 → St → Prop} (hq : ∀ D' τ, RC D' τ S' → DX S D D' → r.1 = 0 → Q r.2 τ) {Y : Nat → St → Prop} (hy : ∀ D' τ u, RC D' τ S' → DX S D D' → r.1 = u → ¬ u = 0 → Y u τ) : w_X11_order k n a0 x1 x2 x3 σ Q Y := by
  have L0 := zle.rf S
  have X0 := DX.rf S D
  replace hq : ∀ D9 σ9 S9 x, RC D9 σ9 S9 → zle S S9 → DX S D D9 → (mret (0, x)).1 S9 = some (r, S') → Q x σ9 := fun D9 σ9 S9 x h9 _ X9 e9 => by obtain ⟨rfl, rfl⟩ := mret_some e9; exact hq D9 σ9 h9 X9 rfl
  replace hy : ∀ D9 σ9 S9 u, RC D9 σ9 S9 → zle S S9 → DX S D D9 → (mthr u).1 S9 = some (r, S') → ¬ u = 0 → Y u σ9 := fun D9 σ9 S9 u h9 _ X9 e9 n9 => by cases e9; exact hy D9 σ9 u (h9.cost _ _) X9 rfl n9
  unfold f_X11_order at hp
  unfold w_X11_order
  obtain ⟨x51, S52, e52, L52, hp⟩ := mb_some hp
  refine q_X11_isWithin h  e52 (fun D52 s52 h52 X52 => ?_)
  have hk := bup hk (L52 61)
  have hn := bup hn (L52 62)
  have X0 := X0.tr L0 X52
  have L0 := L0.tr L52
  refine ⟨fun c => ?_, fun c => ?_⟩
  · replace hp := mif_t hp c
    have hb := mthr_b hp hk hn
    exact ⟨hb.1, hb.2, hy _ _ _ _ h52 L0 X0 hp (by decide)⟩
  · replace hp := mif_f hp c
    obtain ⟨x54, S55, e55, L55, hp⟩ := mb_some hp
    refine q_X11_isWithin h52  e55 (fun D55 s55 h55 X55 => ?_)
    have hk := bup hk (L55 61)
    have hn := bup hn (L55 62)
    have X0 := X0.tr L0 X55
    have L0 := L0.tr L55
    replace hp := mrd_some hp
    refine ⟨fun c => ?_, fun c => ?_⟩
    · replace hp := mif_f hp c
      have A0_s52 := A0.up L52 X52
      have A0_s55 := A0_s52.up L55 X55
      intro o57 ho57
      obtain ⟨b57, p57, B57⟩ := h55.lis 1106 11 7 rfl A0_s55 ((lv_o (by decide)).mp A0_s55.1) ho57
      refine ⟨b57, p57, ?_⟩
      obtain ⟨x59, ex59, hp⟩ := mbo_some hp
      refine q_size h55 (show lF 1106 11 7 = true from rfl) B57 ex59 ?_
      refine ⟨fun c => ?_, fun c => ?_⟩
      · replace hp := mif_t hp c
        intro o62 ho62
        obtain ⟨b62, p62, B62⟩ := h55.lis 1106 11 7 rfl A0_s55 ((lv_o (by decide)).mp A0_s55.1) ho62
        obtain ⟨S68, i68, z68, j68, L68, hp⟩ := mnew_some hp
        have M68 := mle hp
        rw [← z68] at M68
        obtain ⟨k63, n64, f68, g68, hk, hn⟩ := q_new h55 (by decide) M68 hk hn
        rw [z68] at hk hn
        refine ⟨k63, n64, f68, g68, fun a67 s68 w68 e68 => ?_⟩
        obtain ⟨D68, h68, X68, B68⟩ := h55.nwO (n := 7) (show 7 = 2 ∨ 7 = 4 ∨ 7 = 5 ∨ 7 = 6 ∨ 7 = 7 ∨ 7 = 10 by decide) w68 e68
        rw [z68] at h68 B68
        rw [j68] at B68
        have L0p := L0
        have L0 := L0.tr L68
        have X0 := X0.tr L0p X68
        replace hp := mrd_some hp
        have A0_s68 := A0_s55.up L68 X68
        intro o69 ho69
        obtain ⟨b69, p69, B69⟩ := h68.lis 1106 11 7 rfl A0_s68 ((lv_o (by decide)).mp A0_s68.1) ho69
        refine ⟨b69, p69, ?_⟩
        obtain ⟨x71, ex71, hp⟩ := mbo_some hp
        refine q_size h68 (show lF 1106 11 7 = true from rfl) B69 ex71 ?_
        obtain ⟨w74, S74, e74, L74, hp⟩ := mb_some hp
        have M74 := mle hp
        obtain ⟨k75, k77, f1, f2, hk⟩ := bud (L74 61) (M74 61) hk
        obtain ⟨n76, n78, g1, g2, hn⟩ := bud (L74 62) (M74 62) hn
        refine ⟨k75, n76, k77, n78, f1, g1, q_X7_init h68 B68 e74 f2 g2 (fun D74 s74 h74 X74 => ?_)⟩
        have X0 := X0.tr L0 X74
        have L0 := L0.tr L74
        refine ⟨b62, p62, ?_⟩
        have B62_s68 := B62.up L68 X68
        have B62_s74 := B62_s68.up L74 X74
        have B68_s74 := B68.up L74 X74
        obtain ⟨u83, S83, z83, L83, hp⟩ := mladd_some hp
        have M83 := mle hp
        obtain ⟨k84, k86, f1, f2, hk⟩ := bud (L83 61) (M83 61) hk
        obtain ⟨n85, n87, g1, g2, hn⟩ := bud (L83 62) (M83 62) hn
        refine ⟨k84, n85, k86, n87, f1, g1, q_ladd h74 (show lF 1106 11 7 = true from rfl) B62_s74 B68_s74 u83 (by rw [z83]; exact f2) (by rw [z83]; exact g2) (fun s83 h83 => ?_)⟩
        rw [z83] at h83
        have L0 := L0.tr L83
        replace hp := mrd_some hp
        have A0_s74 := A0_s68.up L74 X74
        have A0_s83 := A0_s74.up L83 (DX.rf _ _)
        intro o90 ho90
        obtain ⟨b90, p90, B90⟩ := h83.lis 1106 11 7 rfl A0_s83 ((lv_o (by decide)).mp A0_s83.1) ho90
        refine ⟨b90, p90, ?_⟩
        obtain ⟨x92, ex92, hp⟩ := mbo_some hp
        refine q_size h83 (show lF 1106 11 7 = true from rfl) B90 ex92 ?_
        exact hq _ _ _ _ h83 L0 X0 hp
      · replace hp := mif_f hp c
        have hb := mthr_b hp hk hn
        exact ⟨hb.1, hb.2, hy _ _ _ _ h55 L0 X0 hp (by decide)⟩
    · replace hp := mif_t hp c
      have hb := mthr_b hp hk hn
      exact ⟨hb.1, hb.2, hy _ _ _ _ h55 L0 X0 hp (by decide)⟩
set_option maxRecDepth 100000 in
set_option maxHeartbeats 1000000 in
theorem q_X8_take {D : Nat → Nat → Nat} {σ : St} {S S' : Ss} {a0 : Nat} {i0 : Nat} {a1 : Nat} {i1 : Nat} {r : Unit} (h : RC D σ S) (A0 : AT D S 8 i0 a0) (A1 : AT D S 10 i1 a1) (hp : (f_X8_take i0 i1).1 S = some (r, S')) {k n : Nat} (hk : zN S' 61 ≤ zN S 61 + k) (hn : zN S' 62 ≤ zN S 62 + n) {Q : St → Prop} (hq : ∀ D' τ, RC D' τ S' → DX S D D' → Q τ) : w_X8_take k n a0 a1 σ Q := by
  have L0 := zle.rf S
  have X0 := DX.rf S D
  replace hq : ∀ D9 σ9 S9, RC D9 σ9 S9 → zle S S9 → DX S D D9 → (mret ()).1 S9 = some (r, S') → Q σ9 := fun D9 σ9 S9 h9 _ X9 e9 => by obtain ⟨rfl, rfl⟩ := mret_some e9; exact hq D9 σ9 h9 X9
  unfold f_X8_take at hp
  unfold w_X8_take
  intro s51 es51
  obtain ⟨S51, z51, L51, hp⟩ := mst_some hp
  have h51 := h.wI (rfl : 1005 / 100 = 10) (by decide) (by decide) A1 es51
  rw [z51] at h51
  have L0 := L0.tr L51
  have hk := bup hk (L51 61)
  have hn := bup hn (L51 62)
  have A0_s51 := A0.up L51 (DX.rf _ _)
  intro o52 ho52
  obtain ⟨b52, p52, B52⟩ := h51.lis 800 8 10 rfl A0_s51 ((lv_o (by decide)).mp A0_s51.1) ho52
  refine ⟨b52, p52, ?_⟩
  have A1_s51 := A1.up L51 (DX.rf _ _)
  obtain ⟨u55, S55, z55, L55, hp⟩ := mladd_some hp
  have M55 := mle hp
  obtain ⟨k56, k58, f1, f2, hk⟩ := bud (L55 61) (M55 61) hk
  obtain ⟨n57, n59, g1, g2, hn⟩ := bud (L55 62) (M55 62) hn
  refine ⟨k56, n57, k58, n59, f1, g1, q_ladd h51 (show lF 800 8 10 = true from rfl) B52 A1_s51 u55 (by rw [z55]; exact f2) (by rw [z55]; exact g2) (fun s55 h55 => ?_)⟩
  rw [z55] at h55
  have L0 := L0.tr L55
  exact hq _ _ _ h55 L0 X0 hp
set_option maxRecDepth 100000 in
set_option maxHeartbeats 1000000 in
theorem q_X11_give {D : Nat → Nat → Nat} {σ : St} {S S' : Ss} {a0 : Nat} {x1 : Int32} {x2 : Int32} {r : Nat × Int32} (h : RC D σ S) (A0 : AT D S 11 0 a0) (hp : (f_X11_give x1 x2).1 S = some (r, S')) {k n : Nat} (hk : zN S' 61 ≤ zN S 61 + k) (hn : zN S' 62 ≤ zN S 62 + n) {Q : Int32 → St → Prop} (hq : ∀ D' τ, RC D' τ S' → DX S D D' → r.1 = 0 → Q r.2 τ) {Y : Nat → St → Prop} (hy : ∀ D' τ u, RC D' τ S' → DX S D D' → r.1 = u → ¬ u = 0 → Y u τ) : w_X11_give k n a0 x1 x2 σ Q Y := by
  have L0 := zle.rf S
  have X0 := DX.rf S D
  replace hq : ∀ D9 σ9 S9 x, RC D9 σ9 S9 → zle S S9 → DX S D D9 → (mret (0, x)).1 S9 = some (r, S') → Q x σ9 := fun D9 σ9 S9 x h9 _ X9 e9 => by obtain ⟨rfl, rfl⟩ := mret_some e9; exact hq D9 σ9 h9 X9 rfl
  replace hy : ∀ D9 σ9 S9 u, RC D9 σ9 S9 → zle S S9 → DX S D D9 → (mthr u).1 S9 = some (r, S') → ¬ u = 0 → Y u σ9 := fun D9 σ9 S9 u h9 _ X9 e9 n9 => by cases e9; exact hy D9 σ9 u (h9.cost _ _) X9 rfl n9
  unfold f_X11_give at hp
  unfold w_X11_give
  obtain ⟨x51, S52, e52, L52, hp⟩ := mb_some hp
  refine q_X11_isRobot h  e52 (fun D52 s52 h52 X52 => ?_)
  have hk := bup hk (L52 61)
  have hn := bup hn (L52 62)
  have X0 := X0.tr L0 X52
  have L0 := L0.tr L52
  refine ⟨fun c => ?_, fun c => ?_⟩
  · replace hp := mif_t hp c
    have hb := mthr_b hp hk hn
    exact ⟨hb.1, hb.2, hy _ _ _ _ h52 L0 X0 hp (by decide)⟩
  · replace hp := mif_f hp c
    have A0_s52 := A0.up L52 X52
    obtain ⟨x54, S55, e55, L55, hp⟩ := mb_some hp
    refine q_X11_isTask h52 A0_s52 e55 (fun D55 s55 h55 X55 => ?_)
    have hk := bup hk (L55 61)
    have hn := bup hn (L55 62)
    have X0 := X0.tr L0 X55
    have L0 := L0.tr L55
    replace hp := mrd_some hp
    refine ⟨fun c => ?_, fun c => ?_⟩
    · replace hp := mif_f hp c
      have A0_s55 := A0_s52.up L55 X55
      intro o57 ho57
      obtain ⟨b57, p57, B57⟩ := h55.lis 1108 11 10 rfl A0_s55 ((lv_o (by decide)).mp A0_s55.1) ho57
      refine ⟨b57, p57, ?_⟩
      obtain ⟨i59, e59, hp⟩ := mlget_some hp
      refine q_get h55 (show lF 1108 11 10 = true from rfl) B57 e59 (fun b59 B59 => ?_)
      refine ⟨b59, rfl, ?_⟩
      refine ⟨h55.ob (by decide) B59, ?_⟩
      refine ⟨fun c => ?_, fun c => ?_⟩
      · rw [h55.int 1005 10 rfl (by decide) B59] at c
        replace hp := mif_t hp c
        intro o64 ho64
        obtain ⟨b64, p64, B64⟩ := h55.arr 1102 8 rfl A0_s55 ho64
        refine ⟨b64, p64, ?_⟩
        obtain ⟨v_1, hp⟩ := mix_some hp
        refine ⟨by rw [h55.aln 1102 8 rfl B64]; exact v_1, ?_⟩
        intro o67 ho67
        have C67 := h55.ael 1102 8 rfl B64 v_1
        rw [← ho67] at C67
        obtain ⟨b67, p67, B67⟩ := C67.so rfl
        intro o68 ho68
        obtain ⟨b68, p68, B68⟩ := h55.lis 1108 11 10 rfl A0_s55 ((lv_o (by decide)).mp A0_s55.1) ho68
        refine ⟨b68, p68, ?_⟩
        obtain ⟨i70, e70, hp⟩ := mlget_some hp
        refine q_get h55 (show lF 1108 11 10 = true from rfl) B68 e70 (fun b70 B70 => ?_)
        refine ⟨b70, rfl, ?_⟩
        refine ⟨h55.ob (by decide) B70, ?_⟩
        refine ⟨b67, p67, ?_⟩
        obtain ⟨w76, S76, e76, L76, hp⟩ := mb_some hp
        have M76 := mle hp
        obtain ⟨k77, k79, f1, f2, hk⟩ := bud (L76 61) (M76 61) hk
        obtain ⟨n78, n80, g1, g2, hn⟩ := bud (L76 62) (M76 62) hn
        refine ⟨k77, n78, k79, n80, f1, g1, q_X8_take h55 B67 B70 e76 f2 g2 (fun D76 s76 h76 X76 => ?_)⟩
        have X0 := X0.tr L0 X76
        have L0 := L0.tr L76
        have A0_s76 := A0_s55.up L76 X76
        intro o83 ho83
        obtain ⟨b83, p83, B83⟩ := h76.arr 1102 8 rfl A0_s76 ho83
        refine ⟨b83, p83, ?_⟩
        obtain ⟨v_2, hp⟩ := mix_some hp
        refine ⟨by rw [h76.aln 1102 8 rfl B83]; exact v_2, ?_⟩
        intro o86 ho86
        have C86 := h76.ael 1102 8 rfl B83 v_2
        rw [← ho86] at C86
        obtain ⟨b86, p86, B86⟩ := C86.so rfl
        refine ⟨b86, p86, ?_⟩
        obtain ⟨x88, S89, e89, L89, hp⟩ := mb_some hp
        refine q_X8_tasksInRow h76 B86 e89 (fun D89 s89 h89 X89 => ?_)
        have hk := bup hk (L89 61)
        have hn := bup hn (L89 62)
        have X0 := X0.tr L0 X89
        have L0 := L0.tr L89
        exact hq _ _ _ _ h89 L0 X0 hp
      · rw [h55.int 1005 10 rfl (by decide) B59] at c
        replace hp := mif_f hp c
        have hb := mthr_b hp hk hn
        exact ⟨hb.1, hb.2, hy _ _ _ _ h55 L0 X0 hp (by decide)⟩
    · replace hp := mif_t hp c
      have hb := mthr_b hp hk hn
      exact ⟨hb.1, hb.2, hy _ _ _ _ h55 L0 X0 hp (by decide)⟩
set_option maxRecDepth 100000 in
set_option maxHeartbeats 1000000 in
theorem q_X11_holdInSlots_60 {D0 : Nat → Nat → Nat} {S0 S' : Ss} {r : Unit} {Q : St → Prop} (hq : ∀ D σ S, RC D σ S → zle S0 S → DX S0 D0 D → (mret ()).1 S = some (r, S') → Q σ) {K3 : Nat → Nat → Nat → Nat → Int32 → Int32 → St → Nat → Nat → Prop} {LK3 : Nat → Nat → Nat → Int32 → Int32 → MM (Unit)} (hK3 : ∀ (D : Nat → Nat → Nat) (σ : St) (S : Ss) (a0 : Nat) (a1 : Nat) (i1 : Nat) (a2 : Nat) (i2 : Nat) (a3 : Nat) (i3 : Nat) (x4 : Int32) (x5 : Int32), RC D σ S → zle S0 S → DX S0 D0 D → AT D S 11 0 a0 → AT D S 7 i1 a1 → AT D S 4 i2 a2 → AT D S 5 i3 a3 → (LK3 i1 i2 i3 x4 x5).1 S = some (r, S') → ∀ k n : Nat, zN S' 61 ≤ zN S 61 + k → zN S' 62 ≤ zN S 62 + n → K3 a0 a1 a2 a3 x4 x5 σ k n) : ∀ (D : Nat → Nat → Nat) (σ : St) (S : Ss) (a0 : Nat) (a1 : Nat) (i1 : Nat) (a2 : Nat) (i2 : Nat) (a3 : Nat) (i3 : Nat) (x4 : Int32) (x5 : Int32) (x6 : Int32) (xs0 : Int32), RC D σ S → zle S0 S → DX S0 D0 D → AT D S 11 0 a0 → AT D S 7 i1 a1 → AT D S 4 i2 a2 → AT D S 5 i3 a3 → (f_X11_holdInSlots_60 LK3 i1 i2 i3 x4 x5 x6 xs0).1 S = some (r, S') → ∀ k n : Nat, zN S' 61 ≤ zN S 61 + k → zN S' 62 ≤ zN S 62 + n → w_X11_holdInSlots_60 Q K3 a0 a1 a2 a3 x4 x5 x6 xs0 σ k n := by
  intro D σ S a0 a1 i1 a2 i2 a3 i3 x4 x5 x6 xs0 h L0 X0 A0 A1 A2 A3 hp k n hk hn
  unfold f_X11_holdInSlots_60 at hp
  unfold w_X11_holdInSlots_60
  refine ⟨fun c => ?_, fun c => ?_⟩
  · replace hp := mif_f hp c
    exact hK3 _ _ _ _ _ _ _ _ _ _ _ _ h L0 X0 A0 A1 A2 A3 hp _ _ hk hn
  · replace hp := mif_t hp c
    refine ⟨fun c => ?_, fun c => ?_⟩
    · replace hp := mif_t hp c
      exact hK3 _ _ _ _ _ _ _ _ _ _ _ _ h L0 X0 A0 A1 A2 A3 hp _ _ hk hn
    · replace hp := mif_f hp c
      obtain ⟨r74, S75, e75, L75, hp⟩ := mb_some hp
      have M75 := mle hp
      obtain ⟨k76, k78, f1, f2, hk⟩ := bud (L75 61) (M75 61) hk
      obtain ⟨n77, n79, g1, g2, hn⟩ := bud (L75 62) (M75 62) hn
      refine ⟨k76, n77, k78, n79, f1, g1, q_X11_hold h A0 (A1.sm) (A2.sm) A3 e75 f2 g2 (fun D75 s75 o74 h75 X75 B74 => ?_)⟩
      have X0 := X0.tr L0 X75
      have L0 := L0.tr L75
      have A0_s75 := A0.up L75 X75
      have A1_s75 := A1.up L75 X75
      have A2_s75 := A2.up L75 X75
      have A3_s75 := A3.up L75 X75
      exact hK3 _ _ _ _ _ _ _ _ _ _ _ _ h75 L0 X0 A0_s75 A1_s75 A2_s75 A3_s75 hp _ _ hk hn
set_option maxRecDepth 100000 in
set_option maxHeartbeats 1000000 in
theorem q_X11_holdInSlots_3 {D0 : Nat → Nat → Nat} {S0 S' : Ss} {r : Unit} {Q : St → Prop} (hq : ∀ D σ S, RC D σ S → zle S0 S → DX S0 D0 D → (mret ()).1 S = some (r, S') → Q σ) : ∀ (f : Nat) (D : Nat → Nat → Nat) (σ : St) (S : Ss) (a0 : Nat) (a1 : Nat) (i1 : Nat) (a2 : Nat) (i2 : Nat) (a3 : Nat) (i3 : Nat) (x4 : Int32) (x5 : Int32), RC D σ S → zle S0 S → DX S0 D0 D → AT D S 11 0 a0 → AT D S 7 i1 a1 → AT D S 4 i2 a2 → AT D S 5 i3 a3 → (f_X11_holdInSlots_3 f i1 i2 i3 x4 x5).1 S = some (r, S') → ∀ k n : Nat, zN S' 61 ≤ zN S 61 + k → zN S' 62 ≤ zN S 62 + n → w_X11_holdInSlots_3 Q  f a0 a1 a2 a3 x4 x5 σ k n := by
  intro f
  induction f with
  | zero => intro D σ S a0 a1 i1 a2 i2 a3 i3 x4 x5 h L0 X0 A0 A1 A2 A3 hp k n hk hn; cases hp
  | succ f ih =>
    intro D σ S a0 a1 i1 a2 i2 a3 i3 x4 x5 h L0 X0 A0 A1 A2 A3 hp k n hk hn
    unfold f_X11_holdInSlots_3 at hp
    unfold w_X11_holdInSlots_3
    intro o51 ho51
    obtain ⟨b51, p51, B51⟩ := h.arr 1100 9 rfl A0 ho51
    refine ⟨b51, p51, ?_⟩
    refine ⟨fun c => ?_, fun c => ?_⟩
    · rw [h.aln 1100 9 rfl B51] at c
      replace hp := mif_t hp c
      exact hq _ _ _ h L0 X0 hp
    · rw [h.aln 1100 9 rfl B51] at c
      replace hp := mif_f hp c
      obtain ⟨x54, S55, e55, L55, hp⟩ := mb_some hp
      refine q_X4_lacking h A2 e55 (fun D55 s55 h55 X55 => ?_)
      have hk := bup hk (L55 61)
      have hn := bup hn (L55 62)
      have X0 := X0.tr L0 X55
      have L0 := L0.tr L55
      refine ⟨fun c => ?_, fun c => ?_⟩
      · replace hp := mif_t hp c
        exact hq _ _ _ h55 L0 X0 hp
      · replace hp := mif_f hp c
        have A2_s55 := A2.up L55 X55
        obtain ⟨x57, S58, e58, L58, hp⟩ := mb_some hp
        refine q_X4_lacking h55 A2_s55 e58 (fun D58 s58 h58 X58 => ?_)
        have hk := bup hk (L58 61)
        have hn := bup hn (L58 62)
        have X0 := X0.tr L0 X58
        have L0 := L0.tr L58
        replace hp := mrd_some hp
        have A0_s55 := A0.up L55 X55
        have A0_s58 := A0_s55.up L58 X58
        intro o59 ho59
        obtain ⟨b59, p59, B59⟩ := h58.bok A0_s58 ho59
        refine ⟨b59, p59, ?_⟩
        have A3_s55 := A3.up L55 X55
        have A3_s58 := A3_s55.up L58 X58
        rw [h58.int 500 5 rfl (by decide) A3_s58]
        obtain ⟨x61, S62, e62, L62, hp⟩ := mb_some hp
        refine q_X0_freePieces h58 B59 e62 (fun D62 s62 h62 X62 => ?_)
        have hk := bup hk (L62 61)
        have hn := bup hn (L62 62)
        have X0 := X0.tr L0 X62
        have L0 := L0.tr L62
        replace hp := mrd_some hp
        intro x63 hx63
        obtain ⟨yx63, ex63, hp⟩ := mbo_some hp
        obtain rfl : yx63 = x63 := ex63.trans hx63.symm
        have A0_s62 := A0_s58.up L62 X62
        intro o64 ho64
        obtain ⟨b64, p64, B64⟩ := h62.arr 1100 9 rfl A0_s62 ho64
        refine ⟨b64, p64, ?_⟩
        obtain ⟨v_1, hp⟩ := mix_some hp
        refine ⟨by rw [h62.aln 1100 9 rfl B64]; exact v_1, ?_⟩
        intro o67 ho67
        have C67 := h62.ael 1100 9 rfl B64 v_1
        rw [← ho67] at C67
        obtain ⟨b67, p67, B67⟩ := C67.so rfl
        refine ⟨b67, p67, ?_⟩
        intro o69 ho69
        obtain ⟨r69, e69, hp⟩ := mbo_some hp
        have B69 := h62.refr 902 9 3 rfl B67
        rw [← ho69, ← e69] at B69
        refine ⟨fun c => ?_, fun a71 c => ?_⟩
        · replace hp := mcase_n hp (B69.no c)
          have A1_s55 := A1.up L55 X55
          have A1_s58 := A1_s55.up L58 X58
          have A1_s62 := A1_s58.up L62 X62
          have A2_s58 := A2_s55.up L58 X58
          have A2_s62 := A2_s58.up L62 X62
          have A3_s62 := A3_s58.up L62 X62
          exact q_X11_holdInSlots_60 hq ih  _ _ _ _ _ _ _ _ _ _ _ _ _ _ h62 L0 X0 A0_s62 A1_s62 A2_s62 A3_s62 hp _ _ hk hn
        · obtain ⟨i71, e71, B71⟩ := B69.sa c
          replace hp := mcase_s hp e71
          have A1_s55 := A1.up L55 X55
          have A1_s58 := A1_s55.up L58 X58
          have A1_s62 := A1_s58.up L62 X62
          have A2_s58 := A2_s55.up L58 X58
          have A2_s62 := A2_s58.up L62 X62
          have A3_s62 := A3_s58.up L62 X62
          exact q_X11_holdInSlots_60 hq ih  _ _ _ _ _ _ _ _ _ _ _ _ _ _ h62 L0 X0 A0_s62 A1_s62 A2_s62 A3_s62 hp _ _ hk hn
set_option maxRecDepth 100000 in
set_option maxHeartbeats 1000000 in
theorem q_X11_holdInSlots {D : Nat → Nat → Nat} {σ : St} {S S' : Ss} {a0 : Nat} {a1 : Nat} {i1 : Nat} {a2 : Nat} {i2 : Nat} {a3 : Nat} {i3 : Nat} {x4 : Int32} {r : Unit} (h : RC D σ S) (A0 : AT D S 11 0 a0) (A1 : AT D S 7 i1 a1) (A2 : AT D S 4 i2 a2) (A3 : AT D S 5 i3 a3) (hp : (f_X11_holdInSlots i1 i2 i3 x4).1 S = some (r, S')) {k n : Nat} (hk : zN S' 61 ≤ zN S 61 + k) (hn : zN S' 62 ≤ zN S 62 + n) {Q : St → Prop} (hq : ∀ D' τ, RC D' τ S' → DX S D D' → Q τ) : w_X11_holdInSlots k n a0 a1 a2 a3 x4 σ Q := by
  have L0 := zle.rf S
  have X0 := DX.rf S D
  replace hq : ∀ D9 σ9 S9, RC D9 σ9 S9 → zle S S9 → DX S D D9 → (mret ()).1 S9 = some (r, S') → Q σ9 := fun D9 σ9 S9 h9 _ X9 e9 => by obtain ⟨rfl, rfl⟩ := mret_some e9; exact hq D9 σ9 h9 X9
  unfold f_X11_holdInSlots at hp
  unfold w_X11_holdInSlots
  refine ⟨FU, ?_⟩
  exact q_X11_holdInSlots_3 hq FU _ _ _ _ _ _ _ _ _ _ _ _ h L0 X0 A0 A1 A2 A3 hp _ _ hk hn
set_option maxRecDepth 100000 in
set_option maxHeartbeats 1000000 in
theorem q_X11_pass_47 {D0 : Nat → Nat → Nat} {S0 S' : Ss} {r : Nat × Int32} {Q : Int32 → St → Prop} (hq : ∀ D σ S x, RC D σ S → zle S0 S → DX S0 D0 D → (mret (0, x)).1 S = some (r, S') → Q x σ) {Y : Nat → St → Prop} (hy : ∀ D σ S u, RC D σ S → zle S0 S → DX S0 D0 D → (mthr u).1 S = some (r, S') → ¬ u = 0 → Y u σ) {K20 : Nat → Int32 → Int32 → St → Nat → Nat → Prop} {LK20 : Int32 → Int32 → MM (Nat × Int32)} (hK20 : ∀ (D : Nat → Nat → Nat) (σ : St) (S : Ss) (a0 : Nat) (x1 : Int32) (x2 : Int32), RC D σ S → zle S0 S → DX S0 D0 D → AT D S 11 0 a0 → (LK20 x1 x2).1 S = some (r, S') → ∀ k n : Nat, zN S' 61 ≤ zN S 61 + k → zN S' 62 ≤ zN S 62 + n → K20 a0 x1 x2 σ k n) : ∀ (f : Nat) (D : Nat → Nat → Nat) (σ : St) (S : Ss) (a0 : Nat) (x1 : Int32) (x2 : Int32) (o3 : Option Nat) (x4 : Int32) (x5 : Int32), RC D σ S → zle S0 S → DX S0 D0 D → AT D S 11 0 a0 → (∃ b, o3 = some b ∧ AT D S 20000 1102 b) → (f_X11_pass_47 LK20 f x1 x2 x4 x5).1 S = some (r, S') → ∀ k n : Nat, zN S' 61 ≤ zN S 61 + k → zN S' 62 ≤ zN S 62 + n → w_X11_pass_47 Q Y K20 f a0 x1 x2 o3 x4 x5 σ k n := by
  intro f
  induction f with
  | zero => intro D σ S a0 x1 x2 o3 x4 x5 h L0 X0 A0 A3 hp k n hk hn; cases hp
  | succ f ih =>
    intro D σ S a0 x1 x2 o3 x4 x5 h L0 X0 A0 A3 hp k n hk hn
    unfold f_X11_pass_47 at hp
    unfold w_X11_pass_47
    obtain ⟨b3, p3, A3⟩ := A3
    refine ⟨fun c => ?_, fun c => ?_⟩
    · replace hp := mif_t hp c
      obtain ⟨w61, S61, e61, L61, hp⟩ := mb_some hp
      refine q_X11_undoStandstill h A0 e61 (fun D61 s61 h61 X61 => ?_)
      have hk := bup hk (L61 61)
      have hn := bup hn (L61 62)
      have X0 := X0.tr L0 X61
      have L0 := L0.tr L61
      have A0_s61 := A0.up L61 X61
      exact hK20 _ _ _ _ _ _ h61 L0 X0 A0_s61 hp _ _ hk hn
    · replace hp := mif_f hp c
      refine ⟨b3, p3, ?_⟩
      obtain ⟨v_1, hp⟩ := mix_some hp
      refine ⟨by rw [h.aln 1102 8 rfl A3]; exact v_1, ?_⟩
      intro o64 ho64
      have C64 := h.ael 1102 8 rfl A3 v_1
      rw [← ho64] at C64
      obtain ⟨b64, p64, B64⟩ := C64.so rfl
      refine ⟨b64, p64, ?_⟩
      obtain ⟨w67, S67, e67, L67, hp⟩ := mb_some hp
      have M67 := mle hp
      obtain ⟨k68, k70, f1, f2, hk⟩ := bud (L67 61) (M67 61) hk
      obtain ⟨n69, n71, g1, g2, hn⟩ := bud (L67 62) (M67 62) hn
      refine ⟨k68, n69, k70, n71, f1, g1, q_X11_act h A0 B64 e67 f2 g2 (fun D67 s67 h67 X67 => ?_)⟩
      have X0 := X0.tr L0 X67
      have L0 := L0.tr L67
      have A0_s67 := A0.up L67 X67
      have A3_s67 := A3.up L67 X67
      exact ih _ _ _ _ _ _ _ _ _ h67 L0 X0 A0_s67 ⟨_, rfl, A3_s67⟩ hp _ _ hk hn
set_option maxRecDepth 100000 in
set_option maxHeartbeats 1000000 in
theorem q_X11_pass_20 {D0 : Nat → Nat → Nat} {S0 S' : Ss} {r : Nat × Int32} {Q : Int32 → St → Prop} (hq : ∀ D σ S x, RC D σ S → zle S0 S → DX S0 D0 D → (mret (0, x)).1 S = some (r, S') → Q x σ) {Y : Nat → St → Prop} (hy : ∀ D σ S u, RC D σ S → zle S0 S → DX S0 D0 D → (mthr u).1 S = some (r, S') → ¬ u = 0 → Y u σ) : ∀ (f : Nat) (D : Nat → Nat → Nat) (σ : St) (S : Ss) (a0 : Nat) (x1 : Int32) (x2 : Int32), RC D σ S → zle S0 S → DX S0 D0 D → AT D S 11 0 a0 → (f_X11_pass_20 f x1 x2).1 S = some (r, S') → ∀ k n : Nat, zN S' 61 ≤ zN S 61 + k → zN S' 62 ≤ zN S 62 + n → w_X11_pass_20 Q Y  f a0 x1 x2 σ k n := by
  intro f
  induction f with
  | zero => intro D σ S a0 x1 x2 h L0 X0 A0 hp k n hk hn; cases hp
  | succ f ih =>
    intro D σ S a0 x1 x2 h L0 X0 A0 hp k n hk hn
    unfold f_X11_pass_20 at hp
    unfold w_X11_pass_20
    replace hp := mrd_some hp
    refine ⟨fun c => ?_, fun c => ?_⟩
    · replace hp := mif_t hp c
      rw [h.int 1116 11 rfl (by decide) A0]
      exact hq _ _ _ _ h L0 X0 hp
    · replace hp := mif_f hp c
      intro s55 es55
      rw [h.int 1116 11 rfl (by decide) A0] at es55
      obtain ⟨S55, z55, L55, hp⟩ := mst_some hp
      have h55 := h.wI (rfl : 1116 / 100 = 11) (by decide) (by decide) A0 es55
      rw [z55] at h55
      have L0 := L0.tr L55
      have hk := bup hk (L55 61)
      have hn := bup hn (L55 62)
      have A0_s55 := A0.up L55 (DX.rf _ _)
      intro o56 ho56
      obtain ⟨b56, p56, B56⟩ := h55.arr 1102 8 rfl A0_s55 ho56
      refine ⟨b56, p56, ?_⟩
      intro x58 hx58
      rw [h55.aln 1102 8 rfl B56] at hx58
      obtain ⟨yx58, ex58, hp⟩ := mbo_some hp
      obtain rfl : yx58 = x58 := ex58.trans hx58.symm
      refine ⟨FU, ?_⟩
      exact q_X11_pass_47 hq hy ih FU _ _ _ _ _ _ _ _ _ h55 L0 X0 A0_s55 ⟨_, rfl, B56⟩ hp _ _ hk hn
set_option maxRecDepth 100000 in
set_option maxHeartbeats 1000000 in
theorem q_X11_pass {D : Nat → Nat → Nat} {σ : St} {S S' : Ss} {a0 : Nat} {x1 : Int32} {r : Nat × Int32} (h : RC D σ S) (A0 : AT D S 11 0 a0) (hp : (f_X11_pass x1).1 S = some (r, S')) {k n : Nat} (hk : zN S' 61 ≤ zN S 61 + k) (hn : zN S' 62 ≤ zN S 62 + n) {Q : Int32 → St → Prop} (hq : ∀ D' τ, RC D' τ S' → DX S D D' → r.1 = 0 → Q r.2 τ) {Y : Nat → St → Prop} (hy : ∀ D' τ u, RC D' τ S' → DX S D D' → r.1 = u → ¬ u = 0 → Y u τ) : w_X11_pass k n a0 x1 σ Q Y := by
  have L0 := zle.rf S
  have X0 := DX.rf S D
  replace hq : ∀ D9 σ9 S9 x, RC D9 σ9 S9 → zle S S9 → DX S D D9 → (mret (0, x)).1 S9 = some (r, S') → Q x σ9 := fun D9 σ9 S9 x h9 _ X9 e9 => by obtain ⟨rfl, rfl⟩ := mret_some e9; exact hq D9 σ9 h9 X9 rfl
  replace hy : ∀ D9 σ9 S9 u, RC D9 σ9 S9 → zle S S9 → DX S D D9 → (mthr u).1 S9 = some (r, S') → ¬ u = 0 → Y u σ9 := fun D9 σ9 S9 u h9 _ X9 e9 n9 => by cases e9; exact hy D9 σ9 u (h9.cost _ _) X9 rfl n9
  unfold f_X11_pass at hp
  unfold w_X11_pass
  obtain ⟨x51, S52, e52, L52, hp⟩ := mb_some hp
  refine q_X11_isWithin h  e52 (fun D52 s52 h52 X52 => ?_)
  have hk := bup hk (L52 61)
  have hn := bup hn (L52 62)
  have X0 := X0.tr L0 X52
  have L0 := L0.tr L52
  refine ⟨fun c => ?_, fun c => ?_⟩
  · replace hp := mif_f hp c
    refine ⟨FU, ?_⟩
    have A0_s52 := A0.up L52 X52
    exact q_X11_pass_20 hq hy FU _ _ _ _ _ _ h52 L0 X0 A0_s52 hp _ _ hk hn
  · replace hp := mif_t hp c
    have hb := mthr_b hp hk hn
    exact ⟨hb.1, hb.2, hy _ _ _ _ h52 L0 X0 hp (by decide)⟩
set_option maxRecDepth 100000 in
set_option maxHeartbeats 1000000 in
theorem q_X11_putAway {D : Nat → Nat → Nat} {σ : St} {S S' : Ss} {a0 : Nat} {x1 : Int32} {x2 : Int32} {r : Nat × Int32} (h : RC D σ S) (A0 : AT D S 11 0 a0) (hp : (f_X11_putAway x1 x2).1 S = some (r, S')) {k n : Nat} (hk : zN S' 61 ≤ zN S 61 + k) (hn : zN S' 62 ≤ zN S 62 + n) {Q : Int32 → St → Prop} (hq : ∀ D' τ, RC D' τ S' → DX S D D' → r.1 = 0 → Q r.2 τ) {Y : Nat → St → Prop} (hy : ∀ D' τ u, RC D' τ S' → DX S D D' → r.1 = u → ¬ u = 0 → Y u τ) : w_X11_putAway k n a0 x1 x2 σ Q Y := by
  have L0 := zle.rf S
  have X0 := DX.rf S D
  replace hq : ∀ D9 σ9 S9 x, RC D9 σ9 S9 → zle S S9 → DX S D D9 → (mret (0, x)).1 S9 = some (r, S') → Q x σ9 := fun D9 σ9 S9 x h9 _ X9 e9 => by obtain ⟨rfl, rfl⟩ := mret_some e9; exact hq D9 σ9 h9 X9 rfl
  replace hy : ∀ D9 σ9 S9 u, RC D9 σ9 S9 → zle S S9 → DX S D D9 → (mthr u).1 S9 = some (r, S') → ¬ u = 0 → Y u σ9 := fun D9 σ9 S9 u h9 _ X9 e9 n9 => by cases e9; exact hy D9 σ9 u (h9.cost _ _) X9 rfl n9
  unfold f_X11_putAway at hp
  unfold w_X11_putAway
  obtain ⟨x51, S52, e52, L52, hp⟩ := mb_some hp
  refine q_X11_isLot h A0 e52 (fun D52 s52 h52 X52 => ?_)
  have hk := bup hk (L52 61)
  have hn := bup hn (L52 62)
  have X0 := X0.tr L0 X52
  have L0 := L0.tr L52
  refine ⟨fun c => ?_, fun c => ?_⟩
  · replace hp := mif_f hp c
    obtain ⟨x54, S55, e55, L55, hp⟩ := mb_some hp
    refine q_X11_isWithin h52  e55 (fun D55 s55 h55 X55 => ?_)
    have hk := bup hk (L55 61)
    have hn := bup hn (L55 62)
    have X0 := X0.tr L0 X55
    have L0 := L0.tr L55
    refine ⟨fun c => ?_, fun c => ?_⟩
    · replace hp := mif_f hp c
      have A0_s52 := A0.up L52 X52
      have A0_s55 := A0_s52.up L55 X55
      intro o57 ho57
      obtain ⟨b57, p57, B57⟩ := h55.bok A0_s55 ho57
      refine ⟨b57, p57, ?_⟩
      obtain ⟨x59, S60, e60, L60, hp⟩ := mb_some hp
      refine q_X0_freePieces h55 B57 e60 (fun D60 s60 h60 X60 => ?_)
      have hk := bup hk (L60 61)
      have hn := bup hn (L60 62)
      have X0 := X0.tr L0 X60
      have L0 := L0.tr L60
      replace hp := mrd_some hp
      refine ⟨fun c => ?_, fun c => ?_⟩
      · replace hp := mif_t hp c
        have hb := mthr_b hp hk hn
        exact ⟨hb.1, hb.2, hy _ _ _ _ h60 L0 X0 hp (by decide)⟩
      · replace hp := mif_f hp c
        have A0_s60 := A0_s55.up L60 X60
        intro o62 ho62
        obtain ⟨b62, p62, B62⟩ := h60.lis 1108 11 10 rfl A0_s60 ((lv_o (by decide)).mp A0_s60.1) ho62
        refine ⟨b62, p62, ?_⟩
        obtain ⟨x64, ex64, hp⟩ := mbo_some hp
        refine q_size h60 (show lF 1108 11 10 = true from rfl) B62 ex64 ?_
        refine ⟨fun c => ?_, fun c => ?_⟩
        · replace hp := mif_t hp c
          intro o67 ho67
          obtain ⟨b67, p67, B67⟩ := h60.lis 1103 11 5 rfl A0_s60 ((lv_o (by decide)).mp A0_s60.1) ho67
          refine ⟨b67, p67, ?_⟩
          obtain ⟨i69, e69, hp⟩ := mlget_some hp
          refine q_get h60 (show lF 1103 11 5 = true from rfl) B67 e69 (fun b69 B69 => ?_)
          refine ⟨b69, rfl, ?_⟩
          refine ⟨h60.ob (by decide) B69, ?_⟩
          obtain ⟨x73, S74, e74, L74, hp⟩ := mb_some hp
          refine q_X11_slotToPutInto h60 A0_s60 B69 e74 (fun D74 s74 h74 X74 => ?_)
          have hk := bup hk (L74 61)
          have hn := bup hn (L74 62)
          have X0 := X0.tr L0 X74
          have L0 := L0.tr L74
          refine ⟨fun c => ?_, fun c => ?_⟩
          · replace hp := mif_t hp c
            exact hq _ _ _ _ h74 L0 X0 hp
          · replace hp := mif_f hp c
            have A0_s74 := A0_s60.up L74 X74
            have B69_s74 := B69.up L74 X74
            obtain ⟨r76, S77, e77, L77, hp⟩ := mb_some hp
            have M77 := mle hp
            obtain ⟨k78, k80, f1, f2, hk⟩ := bud (L77 61) (M77 61) hk
            obtain ⟨n79, n81, g1, g2, hn⟩ := bud (L77 62) (M77 62) hn
            refine ⟨k78, n79, k80, n81, f1, g1, q_X11_hold h74 A0_s74 ATo.nn ATo.nn B69_s74 e77 f2 g2 (fun D77 s77 o76 h77 X77 B76 => ?_)⟩
            have X0 := X0.tr L0 X77
            have L0 := L0.tr L77
            obtain ⟨i84, e84, hp⟩ := mopt_some hp
            obtain ⟨a84, p84, B84⟩ := B76.so e84
            refine ⟨a84, p84, ?_⟩
            have A0_s77 := A0_s74.up L77 X77
            obtain ⟨r85, S86, e86, L86, hp⟩ := mb_some hp
            have M86 := mle hp
            obtain ⟨k87, k89, f1, f2, hk⟩ := bud (L86 61) (M86 61) hk
            obtain ⟨n88, n90, g1, g2, hn⟩ := bud (L86 62) (M86 62) hn
            refine ⟨k87, n88, k89, n90, f1, g1, q_X11_makeTask h77 A0_s77 B84 e86 f2 g2 (fun D86 s86 o85 h86 X86 B85 => ?_)⟩
            have X0 := X0.tr L0 X86
            have L0 := L0.tr L86
            exact hq _ _ _ _ h86 L0 X0 hp
        · replace hp := mif_f hp c
          have hb := mthr_b hp hk hn
          exact ⟨hb.1, hb.2, hy _ _ _ _ h60 L0 X0 hp (by decide)⟩
    · replace hp := mif_t hp c
      have hb := mthr_b hp hk hn
      exact ⟨hb.1, hb.2, hy _ _ _ _ h55 L0 X0 hp (by decide)⟩
  · replace hp := mif_t hp c
    have hb := mthr_b hp hk hn
    exact ⟨hb.1, hb.2, hy _ _ _ _ h52 L0 X0 hp (by decide)⟩
set_option maxRecDepth 100000 in
set_option maxHeartbeats 1000000 in
theorem q_X11_refillFace_210 {D0 : Nat → Nat → Nat} {S0 S' : Ss} {r : Int32} {Q : Int32 → St → Prop} (hq : ∀ D σ S x, RC D σ S → zle S0 S → DX S0 D0 D → (mret x).1 S = some (r, S') → Q x σ) : ∀ (D : Nat → Nat → Nat) (σ : St) (S : Ss) (x9 : Int32), RC D σ S → zle S0 S → DX S0 D0 D → (f_X11_refillFace_210 x9).1 S = some (r, S') → ∀ k n : Nat, zN S' 61 ≤ zN S 61 + k → zN S' 62 ≤ zN S 62 + n → w_X11_refillFace_210 Q  x9 σ k n := by
  intro D σ S x9 h L0 X0  hp k n hk hn
  unfold f_X11_refillFace_210 at hp
  unfold w_X11_refillFace_210
  refine ⟨fun c => ?_, fun c => ?_⟩
  · replace hp := mif_t hp c
    exact hq _ _ _ _ h L0 X0 hp
  · replace hp := mif_f hp c
    exact hq _ _ _ _ h L0 X0 hp
set_option maxRecDepth 100000 in
set_option maxHeartbeats 1000000 in
theorem q_X11_refillFace_125 {D0 : Nat → Nat → Nat} {S0 S' : Ss} {r : Int32} {Q : Int32 → St → Prop} (hq : ∀ D σ S x, RC D σ S → zle S0 S → DX S0 D0 D → (mret x).1 S = some (r, S') → Q x σ) {K72 : Nat → Int32 → Nat → Option Nat → Int32 → Int32 → St → Nat → Nat → Prop} {LK72 : Int32 → Nat → Option Nat → Int32 → Int32 → MM (Int32)} (hK72 : ∀ (D : Nat → Nat → Nat) (σ : St) (S : Ss) (a0 : Nat) (x1 : Int32) (a2 : Nat) (i2 : Nat) (o3 : Option Nat) (r3 : Option Nat) (x4 : Int32) (x5 : Int32), RC D σ S → zle S0 S → DX S0 D0 D → AT D S 11 0 a0 → AT D S 9 i2 a2 → ATo D S 3 r3 o3 → (LK72 x1 i2 r3 x4 x5).1 S = some (r, S') → ∀ k n : Nat, zN S' 61 ≤ zN S 61 + k → zN S' 62 ≤ zN S 62 + n → K72 a0 x1 a2 o3 x4 x5 σ k n) : ∀ (D : Nat → Nat → Nat) (σ : St) (S : Ss) (a0 : Nat) (x1 : Int32) (a2 : Nat) (i2 : Nat) (o3 : Option Nat) (r3 : Option Nat) (x4 : Int32) (x5 : Int32) (a6 : Nat) (i6 : Nat) (xs0 : Int32), RC D σ S → zle S0 S → DX S0 D0 D → AT D S 11 0 a0 → AT D S 9 i2 a2 → ATo D S 3 r3 o3 → AT D S 5 i6 a6 → (f_X11_refillFace_125 LK72 x1 i2 r3 x4 x5 i6 xs0).1 S = some (r, S') → ∀ k n : Nat, zN S' 61 ≤ zN S 61 + k → zN S' 62 ≤ zN S 62 + n → w_X11_refillFace_125 Q K72 a0 x1 a2 o3 x4 x5 a6 xs0 σ k n := by
  intro D σ S a0 x1 a2 i2 o3 r3 x4 x5 a6 i6 xs0 h L0 X0 A0 A2 A3 A6 hp k n hk hn
  unfold f_X11_refillFace_125 at hp
  unfold w_X11_refillFace_125
  replace hp := mrd_some hp
  refine ⟨fun c => ?_, fun c => ?_⟩
  · replace hp := mif_t hp c
    exact hK72 _ _ _ _ _ _ _ _ _ _ _ h L0 X0 A0 A2 A3 hp _ _ hk hn
  · replace hp := mif_f hp c
    intro o84 ho84
    obtain ⟨b84, p84, B84⟩ := h.bok A0 ho84
    refine ⟨b84, p84, ?_⟩
    rw [h.int 500 5 rfl (by decide) A6]
    obtain ⟨x86, S87, e87, L87, hp⟩ := mb_some hp
    refine q_X0_freePieces h B84 e87 (fun D87 s87 h87 X87 => ?_)
    have hk := bup hk (L87 61)
    have hn := bup hn (L87 62)
    have X0 := X0.tr L0 X87
    have L0 := L0.tr L87
    intro x88 hx88
    rw [h.int 904 9 rfl (by decide) A2] at hx88
    obtain ⟨yx88, ex88, hp⟩ := mbo_some hp
    obtain rfl : yx88 = x88 := ex88.trans hx88.symm
    have A0_s87 := A0.up L87 X87
    obtain ⟨x89, S90, e90, L90, hp⟩ := mb_some hp
    refine q_X11_freeRoom h87 A0_s87 e90 (fun D90 s90 h90 X90 => ?_)
    have hk := bup hk (L90 61)
    have hn := bup hn (L90 62)
    have X0 := X0.tr L0 X90
    have L0 := L0.tr L90
    replace hp := mrd_some hp
    have A3_s87 := A3.up L87 X87
    have A3_s90 := A3_s87.up L90 X90
    obtain ⟨i91, e91, hp⟩ := mopt_some hp
    obtain ⟨a91, p91, B91⟩ := A3_s90.so e91
    refine ⟨a91, p91, ?_⟩
    obtain ⟨g_1, hp⟩ := mgd_some hp
    refine ⟨by rw [h90.int 302 3 rfl (by decide) B91]; exact of_decide_eq_true g_1, ?_⟩
    obtain ⟨g_2, hp⟩ := mgd_some hp
    refine ⟨by rw [h90.int 305 3 rfl (by decide) B91]; exact of_decide_eq_true g_2, ?_⟩
    intro x94 hx94
    rw [h90.int 302 3 rfl (by decide) B91, h90.int 305 3 rfl (by decide) B91] at hx94
    obtain ⟨yx94, ex94, hp⟩ := mbo_some hp
    obtain rfl : yx94 = x94 := ex94.trans hx94.symm
    refine ⟨fun c => ?_, fun c => ?_⟩
    · replace hp := mif_t hp c
      exact q_X11_refillFace_210 hq  _ _ _ _ h90 L0 X0  hp _ _ hk hn
    · replace hp := mif_f hp c
      have A0_s90 := A0_s87.up L90 X90
      have A6_s87 := A6.up L87 X87
      have A6_s90 := A6_s87.up L90 X90
      rw [h90.int 305 3 rfl (by decide) B91]
      obtain ⟨r97, S98, e98, L98, hp⟩ := mb_some hp
      have M98 := mle hp
      obtain ⟨k99, k101, f1, f2, hk⟩ := bud (L98 61) (M98 61) hk
      obtain ⟨n100, n102, g1, g2, hn⟩ := bud (L98 62) (M98 62) hn
      refine ⟨k99, n100, k101, n102, f1, g1, q_X11_hold h90 A0_s90 ATo.nn ATo.nn A6_s90 e98 f2 g2 (fun D98 s98 o97 h98 X98 B97 => ?_)⟩
      have X0 := X0.tr L0 X98
      have L0 := L0.tr L98
      obtain ⟨i105, e105, hp⟩ := mopt_some hp
      obtain ⟨a105, p105, B105⟩ := B97.so e105
      refine ⟨a105, p105, ?_⟩
      have A0_s98 := A0_s90.up L98 X98
      obtain ⟨r106, S107, e107, L107, hp⟩ := mb_some hp
      have M107 := mle hp
      obtain ⟨k108, k110, f1, f2, hk⟩ := bud (L107 61) (M107 61) hk
      obtain ⟨n109, n111, g1, g2, hn⟩ := bud (L107 62) (M107 62) hn
      refine ⟨k108, n109, k110, n111, f1, g1, q_X11_makeTask h98 A0_s98 B105 e107 f2 g2 (fun D107 s107 o106 h107 X107 B106 => ?_)⟩
      have X0 := X0.tr L0 X107
      have L0 := L0.tr L107
      exact q_X11_refillFace_210 hq  _ _ _ _ h107 L0 X0  hp _ _ hk hn
set_option maxRecDepth 100000 in
set_option maxHeartbeats 1000000 in
theorem q_X11_refillFace_124 {D0 : Nat → Nat → Nat} {S0 S' : Ss} {r : Int32} {Q : Int32 → St → Prop} (hq : ∀ D σ S x, RC D σ S → zle S0 S → DX S0 D0 D → (mret x).1 S = some (r, S') → Q x σ) {K72 : Nat → Int32 → Nat → Option Nat → Int32 → Int32 → St → Nat → Nat → Prop} {LK72 : Int32 → Nat → Option Nat → Int32 → Int32 → MM (Int32)} (hK72 : ∀ (D : Nat → Nat → Nat) (σ : St) (S : Ss) (a0 : Nat) (x1 : Int32) (a2 : Nat) (i2 : Nat) (o3 : Option Nat) (r3 : Option Nat) (x4 : Int32) (x5 : Int32), RC D σ S → zle S0 S → DX S0 D0 D → AT D S 11 0 a0 → AT D S 9 i2 a2 → ATo D S 3 r3 o3 → (LK72 x1 i2 r3 x4 x5).1 S = some (r, S') → ∀ k n : Nat, zN S' 61 ≤ zN S 61 + k → zN S' 62 ≤ zN S 62 + n → K72 a0 x1 a2 o3 x4 x5 σ k n) : ∀ (D : Nat → Nat → Nat) (σ : St) (S : Ss) (a0 : Nat) (x1 : Int32) (a2 : Nat) (i2 : Nat) (o3 : Option Nat) (r3 : Option Nat) (x4 : Int32) (x5 : Int32) (a6 : Nat) (i6 : Nat), RC D σ S → zle S0 S → DX S0 D0 D → AT D S 11 0 a0 → AT D S 9 i2 a2 → ATo D S 3 r3 o3 → AT D S 5 i6 a6 → (f_X11_refillFace_124 LK72 x1 i2 r3 x4 x5 i6).1 S = some (r, S') → ∀ k n : Nat, zN S' 61 ≤ zN S 61 + k → zN S' 62 ≤ zN S 62 + n → w_X11_refillFace_124 Q K72 a0 x1 a2 o3 x4 x5 a6 σ k n := by
  intro D σ S a0 x1 a2 i2 o3 r3 x4 x5 a6 i6 h L0 X0 A0 A2 A3 A6 hp k n hk hn
  unfold f_X11_refillFace_124 at hp
  unfold w_X11_refillFace_124
  exact q_X11_refillFace_125 hq hK72  _ _ _ _ _ _ _ _ _ _ _ _ _ _ h L0 X0 A0 A2 A3 A6 hp _ _ hk hn
set_option maxRecDepth 100000 in
set_option maxHeartbeats 1000000 in
theorem q_X11_refillFace_72 {D0 : Nat → Nat → Nat} {S0 S' : Ss} {r : Int32} {Q : Int32 → St → Prop} (hq : ∀ D σ S x, RC D σ S → zle S0 S → DX S0 D0 D → (mret x).1 S = some (r, S') → Q x σ) : ∀ (f : Nat) (D : Nat → Nat → Nat) (σ : St) (S : Ss) (a0 : Nat) (x1 : Int32) (a2 : Nat) (i2 : Nat) (o3 : Option Nat) (r3 : Option Nat) (x4 : Int32) (x5 : Int32), RC D σ S → zle S0 S → DX S0 D0 D → AT D S 11 0 a0 → AT D S 9 i2 a2 → ATo D S 3 r3 o3 → (f_X11_refillFace_72 f x1 i2 r3 x4 x5).1 S = some (r, S') → ∀ k n : Nat, zN S' 61 ≤ zN S 61 + k → zN S' 62 ≤ zN S 62 + n → w_X11_refillFace_72 Q  f a0 x1 a2 o3 x4 x5 σ k n := by
  intro f
  induction f with
  | zero => intro D σ S a0 x1 a2 i2 o3 r3 x4 x5 h L0 X0 A0 A2 A3 hp k n hk hn; cases hp
  | succ f ih =>
    intro D σ S a0 x1 a2 i2 o3 r3 x4 x5 h L0 X0 A0 A2 A3 hp k n hk hn
    unfold f_X11_refillFace_72 at hp
    unfold w_X11_refillFace_72
    replace hp := mrd_some hp
    intro o70 ho70
    obtain ⟨b70, p70, B70⟩ := h.lis 1104 11 5 rfl A0 ((lv_o (by decide)).mp A0.1) ho70
    refine ⟨b70, p70, ?_⟩
    obtain ⟨x72, ex72, hp⟩ := mbo_some hp
    refine q_size h (show lF 1104 11 5 = true from rfl) B70 ex72 ?_
    refine ⟨fun c => ?_, fun c => ?_⟩
    · replace hp := mif_t hp c
      exact hq _ _ _ _ h L0 X0 hp
    · replace hp := mif_f hp c
      intro o75 ho75
      obtain ⟨b75, p75, B75⟩ := h.lis 1104 11 5 rfl A0 ((lv_o (by decide)).mp A0.1) ho75
      refine ⟨b75, p75, ?_⟩
      obtain ⟨i77, e77, hp⟩ := mlget_some hp
      refine q_get h (show lF 1104 11 5 = true from rfl) B75 e77 (fun b77 B77 => ?_)
      refine ⟨b77, rfl, ?_⟩
      refine ⟨h.ob (by decide) B77, ?_⟩
      intro o81 ho81
      obtain ⟨r81, e81, hp⟩ := mbo_some hp
      have B81 := h.refr 501 5 3 rfl B77
      rw [← ho81, ← e81] at B81
      refine ⟨fun c => ?_, fun c => ?_⟩
      · replace hp := mif_f hp (fun q => c ((h.oo (by decide) B81 A3).mpr q))
        exact q_X11_refillFace_124 hq ih  _ _ _ _ _ _ _ _ _ _ _ _ _ h L0 X0 A0 A2 A3 B77 hp _ _ hk hn
      · replace hp := mif_t hp ((h.oo (by decide) B81 A3).mp c)
        refine ⟨fun c => ?_, fun c => ?_⟩
        · rw [h.int 503 5 rfl (by decide) B77] at c
          replace hp := mif_f hp c
          exact q_X11_refillFace_124 hq ih  _ _ _ _ _ _ _ _ _ _ _ _ _ h L0 X0 A0 A2 A3 B77 hp _ _ hk hn
        · rw [h.int 503 5 rfl (by decide) B77] at c
          replace hp := mif_t hp c
          obtain ⟨x115, S116, e116, L116, hp⟩ := mb_some hp
          refine q_X11_slotToRefillFrom h A0 B77 e116 (fun D116 s116 h116 X116 => ?_)
          have hk := bup hk (L116 61)
          have hn := bup hn (L116 62)
          have X0 := X0.tr L0 X116
          have L0 := L0.tr L116
          have A0_s116 := A0.up L116 X116
          have A2_s116 := A2.up L116 X116
          have A3_s116 := A3.up L116 X116
          have B77_s116 := B77.up L116 X116
          exact q_X11_refillFace_125 hq ih  _ _ _ _ _ _ _ _ _ _ _ _ _ _ h116 L0 X0 A0_s116 A2_s116 A3_s116 B77_s116 hp _ _ hk hn
set_option maxRecDepth 100000 in
set_option maxHeartbeats 1000000 in
theorem q_X11_refillFace {D : Nat → Nat → Nat} {σ : St} {S S' : Ss} {a0 : Nat} {x1 : Int32} {a2 : Nat} {i2 : Nat} {r : Int32} (h : RC D σ S) (A0 : AT D S 11 0 a0) (A2 : AT D S 9 i2 a2) (hp : (f_X11_refillFace x1 i2).1 S = some (r, S')) {k n : Nat} (hk : zN S' 61 ≤ zN S 61 + k) (hn : zN S' 62 ≤ zN S 62 + n) {Q : Int32 → St → Prop} (hq : ∀ D' τ, RC D' τ S' → DX S D D' → Q r τ) : w_X11_refillFace k n a0 x1 a2 σ Q := by
  have L0 := zle.rf S
  have X0 := DX.rf S D
  replace hq : ∀ D9 σ9 S9 x, RC D9 σ9 S9 → zle S S9 → DX S D D9 → (mret x).1 S9 = some (r, S') → Q x σ9 := fun D9 σ9 S9 x h9 _ X9 e9 => by obtain ⟨rfl, rfl⟩ := mret_some e9; exact hq D9 σ9 h9 X9
  unfold f_X11_refillFace at hp
  unfold w_X11_refillFace
  replace hp := mrd_some hp
  intro o51 ho51
  obtain ⟨r51, e51, hp⟩ := mbo_some hp
  have B51 := h.refr 902 9 3 rfl A2
  rw [← ho51, ← e51] at B51
  refine ⟨fun c => ?_, fun a53 c => ?_⟩
  · replace hp := mcase_n hp (B51.no c)
    exact hq _ _ _ _ h L0 X0 hp
  · obtain ⟨i53, e53, B53⟩ := B51.sa c
    replace hp := mcase_s hp e53
    refine ⟨fun c => ?_, fun c => ?_⟩
    · rw [h.int 302 3 rfl (by decide) B53] at c
      replace hp := mif_t hp c
      exact hq _ _ _ _ h L0 X0 hp
    · rw [h.int 302 3 rfl (by decide) B53] at c
      replace hp := mif_f hp c
      refine ⟨fun c => ?_, fun c => ?_⟩
      · rw [h.int 305 3 rfl (by decide) B53] at c
        replace hp := mif_t hp c
        intro o56 ho56
        obtain ⟨b56, p56, B56⟩ := h.bok A0 ho56
        refine ⟨b56, p56, ?_⟩
        intro o58 ho58
        obtain ⟨b58, p58, B58⟩ := h.cel 1 0 rfl B56 ho58
        refine ⟨b58, p58, ?_⟩
        rw [h.int 300 3 rfl (by decide) B53]
        obtain ⟨x60, ex60, hp⟩ := mbo_some hp
        refine q_at h (show cF 1 0 = true from rfl) B58 ex60 ?_
        intro o62 ho62
        obtain ⟨b62, p62, B62⟩ := h.bok A0 ho62
        refine ⟨b62, p62, ?_⟩
        intro o64 ho64
        obtain ⟨b64, p64, B64⟩ := h.cel 4 0 rfl B62 ho64
        refine ⟨b64, p64, ?_⟩
        rw [h.int 300 3 rfl (by decide) B53]
        obtain ⟨x66, ex66, hp⟩ := mbo_some hp
        refine q_at h (show cF 4 0 = true from rfl) B64 ex66 ?_
        intro x68 hx68
        obtain ⟨yx68, ex68, hp⟩ := mbo_some hp
        obtain rfl : yx68 = x68 := ex68.trans hx68.symm
        refine ⟨fun c => ?_, fun c => ?_⟩
        · rw [h.int 903 9 rfl (by decide) A2] at c
          replace hp := mif_t hp c
          refine ⟨FU, ?_⟩
          exact q_X11_refillFace_72 hq FU _ _ _ _ _ _ _ _ _ _ _ h L0 X0 A0 A2 (B53.sm) hp _ _ hk hn
        · rw [h.int 903 9 rfl (by decide) A2] at c
          replace hp := mif_f hp c
          exact hq _ _ _ _ h L0 X0 hp
      · rw [h.int 305 3 rfl (by decide) B53] at c
        replace hp := mif_f hp c
        exact hq _ _ _ _ h L0 X0 hp
set_option maxRecDepth 100000 in
set_option maxHeartbeats 1000000 in
theorem q_X11_wave_65 {D0 : Nat → Nat → Nat} {S0 S' : Ss} {r : Nat × Int32} {Q : Int32 → St → Prop} (hq : ∀ D σ S x, RC D σ S → zle S0 S → DX S0 D0 D → (mret (0, x)).1 S = some (r, S') → Q x σ) {Y : Nat → St → Prop} (hy : ∀ D σ S u, RC D σ S → zle S0 S → DX S0 D0 D → (mthr u).1 S = some (r, S') → ¬ u = 0 → Y u σ) : ∀ (f : Nat) (D : Nat → Nat → Nat) (σ : St) (S : Ss) (a0 : Nat) (x1 : Int32) (x2 : Int32) (x3 : Int32) (x4 : Int32), RC D σ S → zle S0 S → DX S0 D0 D → AT D S 11 0 a0 → (f_X11_wave_65 f x1 x2 x3 x4).1 S = some (r, S') → ∀ k n : Nat, zN S' 61 ≤ zN S 61 + k → zN S' 62 ≤ zN S 62 + n → w_X11_wave_65 Q Y  f a0 x1 x2 x3 x4 σ k n := by
  intro f
  induction f with
  | zero => intro D σ S a0 x1 x2 x3 x4 h L0 X0 A0 hp k n hk hn; cases hp
  | succ f ih =>
    intro D σ S a0 x1 x2 x3 x4 h L0 X0 A0 hp k n hk hn
    unfold f_X11_wave_65 at hp
    unfold w_X11_wave_65
    refine ⟨fun c => ?_, fun c => ?_⟩
    · replace hp := mif_t hp c
      exact hq _ _ _ _ h L0 X0 hp
    · replace hp := mif_f hp c
      obtain ⟨r65, S66, e66, L66, hp⟩ := mb_some hp
      refine q_X11_nextForWave h A0 e66 (fun D66 s66 o65 h66 X66 B65 => ?_)
      have hk := bup hk (L66 61)
      have hn := bup hn (L66 62)
      have X0 := X0.tr L0 X66
      have L0 := L0.tr L66
      refine ⟨fun c => ?_, fun a68 c => ?_⟩
      · replace hp := mcase_n hp (B65.no c)
        have A0_s66 := A0.up L66 X66
        exact ih _ _ _ _ _ _ _ _ h66 L0 X0 A0_s66 hp _ _ hk hn
      · obtain ⟨i68, e68, B68⟩ := B65.sa c
        replace hp := mcase_s hp e68
        have A0_s66 := A0.up L66 X66
        intro o69 ho69
        obtain ⟨b69, p69, B69⟩ := h66.arr 1102 8 rfl A0_s66 ho69
        refine ⟨b69, p69, ?_⟩
        obtain ⟨v_1, hp⟩ := mix_some hp
        refine ⟨by rw [h66.aln 1102 8 rfl B69]; exact v_1, ?_⟩
        intro o72 ho72
        have C72 := h66.ael 1102 8 rfl B69 v_1
        rw [← ho72] at C72
        obtain ⟨b72, p72, B72⟩ := C72.so rfl
        obtain ⟨x73, S74, e74, L74, hp⟩ := mb_some hp
        refine q_X2_turn h66 B68 e74 (fun D74 s74 h74 X74 => ?_)
        have hk := bup hk (L74 61)
        have hn := bup hn (L74 62)
        have X0 := X0.tr L0 X74
        have L0 := L0.tr L74
        have A0_s74 := A0_s66.up L74 X74
        have B68_s74 := B68.up L74 X74
        obtain ⟨r75, S76, e76, L76, hp⟩ := mb_some hp
        have M76 := mle hp
        obtain ⟨k77, k79, f1, f2, hk⟩ := bud (L76 61) (M76 61) hk
        obtain ⟨n78, n80, g1, g2, hn⟩ := bud (L76 62) (M76 62) hn
        refine ⟨k77, n78, k79, n80, f1, g1, q_X11_makeTask h74 A0_s74 B68_s74 e76 f2 g2 (fun D76 s76 o75 h76 X76 B75 => ?_)⟩
        have X0 := X0.tr L0 X76
        have L0 := L0.tr L76
        obtain ⟨i83, e83, hp⟩ := mopt_some hp
        obtain ⟨a83, p83, B83⟩ := B75.so e83
        refine ⟨a83, p83, ?_⟩
        refine ⟨b72, p72, ?_⟩
        have B72_s74 := B72.up L74 X74
        have B72_s76 := B72_s74.up L76 X76
        obtain ⟨w86, S86, e86, L86, hp⟩ := mb_some hp
        have M86 := mle hp
        obtain ⟨k87, k89, f1, f2, hk⟩ := bud (L86 61) (M86 61) hk
        obtain ⟨n88, n90, g1, g2, hn⟩ := bud (L86 62) (M86 62) hn
        refine ⟨k87, n88, k89, n90, f1, g1, q_X8_take h76 B72_s76 B83 e86 f2 g2 (fun D86 s86 h86 X86 => ?_)⟩
        have X0 := X0.tr L0 X86
        have L0 := L0.tr L86
        have A0_s76 := A0_s74.up L76 X76
        have A0_s86 := A0_s76.up L86 X86
        exact ih _ _ _ _ _ _ _ _ h86 L0 X0 A0_s86 hp _ _ hk hn
set_option maxRecDepth 100000 in
set_option maxHeartbeats 1000000 in
theorem q_X11_wave {D : Nat → Nat → Nat} {σ : St} {S S' : Ss} {a0 : Nat} {x1 : Int32} {x2 : Int32} {r : Nat × Int32} (h : RC D σ S) (A0 : AT D S 11 0 a0) (hp : (f_X11_wave x1 x2).1 S = some (r, S')) {k n : Nat} (hk : zN S' 61 ≤ zN S 61 + k) (hn : zN S' 62 ≤ zN S 62 + n) {Q : Int32 → St → Prop} (hq : ∀ D' τ, RC D' τ S' → DX S D D' → r.1 = 0 → Q r.2 τ) {Y : Nat → St → Prop} (hy : ∀ D' τ u, RC D' τ S' → DX S D D' → r.1 = u → ¬ u = 0 → Y u τ) : w_X11_wave k n a0 x1 x2 σ Q Y := by
  have L0 := zle.rf S
  have X0 := DX.rf S D
  replace hq : ∀ D9 σ9 S9 x, RC D9 σ9 S9 → zle S S9 → DX S D D9 → (mret (0, x)).1 S9 = some (r, S') → Q x σ9 := fun D9 σ9 S9 x h9 _ X9 e9 => by obtain ⟨rfl, rfl⟩ := mret_some e9; exact hq D9 σ9 h9 X9 rfl
  replace hy : ∀ D9 σ9 S9 u, RC D9 σ9 S9 → zle S S9 → DX S D D9 → (mthr u).1 S9 = some (r, S') → ¬ u = 0 → Y u σ9 := fun D9 σ9 S9 u h9 _ X9 e9 n9 => by cases e9; exact hy D9 σ9 u (h9.cost _ _) X9 rfl n9
  unfold f_X11_wave at hp
  unfold w_X11_wave
  obtain ⟨x51, S52, e52, L52, hp⟩ := mb_some hp
  refine q_X11_isRobot h  e52 (fun D52 s52 h52 X52 => ?_)
  have hk := bup hk (L52 61)
  have hn := bup hn (L52 62)
  have X0 := X0.tr L0 X52
  have L0 := L0.tr L52
  refine ⟨fun c => ?_, fun c => ?_⟩
  · replace hp := mif_f hp c
    obtain ⟨x54, S55, e55, L55, hp⟩ := mb_some hp
    refine q_X11_isWithin h52  e55 (fun D55 s55 h55 X55 => ?_)
    have hk := bup hk (L55 61)
    have hn := bup hn (L55 62)
    have X0 := X0.tr L0 X55
    have L0 := L0.tr L55
    refine ⟨fun c => ?_, fun c => ?_⟩
    · replace hp := mif_f hp c
      have A0_s52 := A0.up L52 X52
      have A0_s55 := A0_s52.up L55 X55
      obtain ⟨x57, S58, e58, L58, hp⟩ := mb_some hp
      refine q_X11_holdingsForWave h55 A0_s55 e58 (fun D58 s58 h58 X58 => ?_)
      have hk := bup hk (L58 61)
      have hn := bup hn (L58 62)
      have X0 := X0.tr L0 X58
      have L0 := L0.tr L58
      replace hp := mrd_some hp
      have A0_s58 := A0_s55.up L58 X58
      intro o59 ho59
      obtain ⟨b59, p59, B59⟩ := h58.lis 1108 11 10 rfl A0_s58 ((lv_o (by decide)).mp A0_s58.1) ho59
      refine ⟨b59, p59, ?_⟩
      obtain ⟨x61, ex61, hp⟩ := mbo_some hp
      refine q_size h58 (show lF 1108 11 10 = true from rfl) B59 ex61 ?_
      refine ⟨fun c => ?_, fun c => ?_⟩
      · replace hp := mif_t hp c
        refine ⟨FU, ?_⟩
        exact q_X11_wave_65 hq hy FU _ _ _ _ _ _ _ _ h58 L0 X0 A0_s58 hp _ _ hk hn
      · replace hp := mif_f hp c
        have hb := mthr_b hp hk hn
        exact ⟨hb.1, hb.2, hy _ _ _ _ h58 L0 X0 hp (by decide)⟩
    · replace hp := mif_t hp c
      have hb := mthr_b hp hk hn
      exact ⟨hb.1, hb.2, hy _ _ _ _ h55 L0 X0 hp (by decide)⟩
  · replace hp := mif_t hp c
    have hb := mthr_b hp hk hn
    exact ⟨hb.1, hb.2, hy _ _ _ _ h52 L0 X0 hp (by decide)⟩
set_option maxRecDepth 100000 in
set_option maxHeartbeats 1000000 in
theorem q_X11_allocateLine_8 {D0 : Nat → Nat → Nat} {S0 S' : Ss} {r : Int32} {Q : Int32 → St → Prop} (hq : ∀ D σ S x, RC D σ S → zle S0 S → DX S0 D0 D → (mret x).1 S = some (r, S') → Q x σ) : ∀ (f : Nat) (D : Nat → Nat → Nat) (σ : St) (S : Ss) (a0 : Nat) (a1 : Nat) (i1 : Nat) (a2 : Nat) (i2 : Nat) (x3 : Int32) (x4 : Int32), RC D σ S → zle S0 S → DX S0 D0 D → AT D S 11 0 a0 → AT D S 7 i1 a1 → AT D S 4 i2 a2 → (f_X11_allocateLine_8 f i1 i2 x3 x4).1 S = some (r, S') → ∀ k n : Nat, zN S' 61 ≤ zN S 61 + k → zN S' 62 ≤ zN S 62 + n → w_X11_allocateLine_8 Q  f a0 a1 a2 x3 x4 σ k n := by
  intro f
  induction f with
  | zero => intro D σ S a0 a1 i1 a2 i2 x3 x4 h L0 X0 A0 A1 A2 hp k n hk hn; cases hp
  | succ f ih =>
    intro D σ S a0 a1 i1 a2 i2 x3 x4 h L0 X0 A0 A1 A2 hp k n hk hn
    unfold f_X11_allocateLine_8 at hp
    unfold w_X11_allocateLine_8
    replace hp := mrd_some hp
    intro o53 ho53
    obtain ⟨b53, p53, B53⟩ := h.lis 1104 11 5 rfl A0 ((lv_o (by decide)).mp A0.1) ho53
    refine ⟨b53, p53, ?_⟩
    obtain ⟨x55, ex55, hp⟩ := mbo_some hp
    refine q_size h (show lF 1104 11 5 = true from rfl) B53 ex55 ?_
    refine ⟨fun c => ?_, fun c => ?_⟩
    · replace hp := mif_t hp c
      obtain ⟨x58, S59, e59, L59, hp⟩ := mb_some hp
      refine q_X4_lacking h A2 e59 (fun D59 s59 h59 X59 => ?_)
      have hk := bup hk (L59 61)
      have hn := bup hn (L59 62)
      have X0 := X0.tr L0 X59
      have L0 := L0.tr L59
      exact hq _ _ _ _ h59 L0 X0 hp
    · replace hp := mif_f hp c
      intro o60 ho60
      obtain ⟨r60, e60, hp⟩ := mbo_some hp
      have B60 := h.refr 400 4 3 rfl A2
      rw [← ho60, ← e60] at B60
      intro o61 ho61
      obtain ⟨b61, p61, B61⟩ := h.lis 1104 11 5 rfl A0 ((lv_o (by decide)).mp A0.1) ho61
      refine ⟨b61, p61, ?_⟩
      obtain ⟨i63, e63, hp⟩ := mlget_some hp
      refine q_get h (show lF 1104 11 5 = true from rfl) B61 e63 (fun b63 B63 => ?_)
      refine ⟨b63, rfl, ?_⟩
      refine ⟨h.ob (by decide) B63, ?_⟩
      obtain ⟨i67, e67, hp⟩ := mopt_some hp
      obtain ⟨a67, p67, B67⟩ := B60.so e67
      refine ⟨a67, p67, ?_⟩
      obtain ⟨x68, S69, e69, L69, hp⟩ := mb_some hp
      refine q_X11_isGoodFor h A0 A1 B67 B63 e69 (fun D69 s69 h69 X69 => ?_)
      have hk := bup hk (L69 61)
      have hn := bup hn (L69 62)
      have X0 := X0.tr L0 X69
      have L0 := L0.tr L69
      refine ⟨fun c => ?_, fun c => ?_⟩
      · replace hp := mif_t hp c
        have A0_s69 := A0.up L69 X69
        have A1_s69 := A1.up L69 X69
        have A2_s69 := A2.up L69 X69
        exact ih _ _ _ _ _ _ _ _ _ _ h69 L0 X0 A0_s69 A1_s69 A2_s69 hp _ _ hk hn
      · replace hp := mif_f hp c
        have A0_s69 := A0.up L69 X69
        intro o71 ho71
        obtain ⟨b71, p71, B71⟩ := h69.lis 1104 11 5 rfl A0_s69 ((lv_o (by decide)).mp A0_s69.1) ho71
        refine ⟨b71, p71, ?_⟩
        obtain ⟨i73, e73, hp⟩ := mlget_some hp
        refine q_get h69 (show lF 1104 11 5 = true from rfl) B71 e73 (fun b73 B73 => ?_)
        refine ⟨b73, rfl, ?_⟩
        refine ⟨h69.ob (by decide) B73, ?_⟩
        have A1_s69 := A1.up L69 X69
        have A2_s69 := A2.up L69 X69
        obtain ⟨w78, S78, e78, L78, hp⟩ := mb_some hp
        have M78 := mle hp
        obtain ⟨k79, k81, f1, f2, hk⟩ := bud (L78 61) (M78 61) hk
        obtain ⟨n80, n82, g1, g2, hn⟩ := bud (L78 62) (M78 62) hn
        refine ⟨k79, n80, k81, n82, f1, g1, q_X11_holdInSlots h69 A0_s69 A1_s69 A2_s69 B73 e78 f2 g2 (fun D78 s78 h78 X78 => ?_)⟩
        have X0 := X0.tr L0 X78
        have L0 := L0.tr L78
        have A0_s78 := A0_s69.up L78 X78
        intro o85 ho85
        obtain ⟨b85, p85, B85⟩ := h78.lis 1104 11 5 rfl A0_s78 ((lv_o (by decide)).mp A0_s78.1) ho85
        refine ⟨b85, p85, ?_⟩
        obtain ⟨i87, e87, hp⟩ := mlget_some hp
        refine q_get h78 (show lF 1104 11 5 = true from rfl) B85 e87 (fun b87 B87 => ?_)
        refine ⟨b87, rfl, ?_⟩
        refine ⟨h78.ob (by decide) B87, ?_⟩
        have A1_s78 := A1_s69.up L78 X78
        have A2_s78 := A2_s69.up L78 X78
        obtain ⟨w92, S92, e92, L92, hp⟩ := mb_some hp
        have M92 := mle hp
        obtain ⟨k93, k95, f1, f2, hk⟩ := bud (L92 61) (M92 61) hk
        obtain ⟨n94, n96, g1, g2, hn⟩ := bud (L92 62) (M92 62) hn
        refine ⟨k93, n94, k95, n96, f1, g1, q_X11_holdInSlots h78 A0_s78 A1_s78 A2_s78 B87 e92 f2 g2 (fun D92 s92 h92 X92 => ?_)⟩
        have X0 := X0.tr L0 X92
        have L0 := L0.tr L92
        have A0_s92 := A0_s78.up L92 X92
        have A1_s92 := A1_s78.up L92 X92
        have A2_s92 := A2_s78.up L92 X92
        exact ih _ _ _ _ _ _ _ _ _ _ h92 L0 X0 A0_s92 A1_s92 A2_s92 hp _ _ hk hn
set_option maxRecDepth 100000 in
set_option maxHeartbeats 1000000 in
theorem q_X11_allocateLine {D : Nat → Nat → Nat} {σ : St} {S S' : Ss} {a0 : Nat} {a1 : Nat} {i1 : Nat} {a2 : Nat} {i2 : Nat} {r : Int32} (h : RC D σ S) (A0 : AT D S 11 0 a0) (A1 : AT D S 7 i1 a1) (A2 : AT D S 4 i2 a2) (hp : (f_X11_allocateLine i1 i2).1 S = some (r, S')) {k n : Nat} (hk : zN S' 61 ≤ zN S 61 + k) (hn : zN S' 62 ≤ zN S 62 + n) {Q : Int32 → St → Prop} (hq : ∀ D' τ, RC D' τ S' → DX S D D' → Q r τ) : w_X11_allocateLine k n a0 a1 a2 σ Q := by
  have L0 := zle.rf S
  have X0 := DX.rf S D
  replace hq : ∀ D9 σ9 S9 x, RC D9 σ9 S9 → zle S S9 → DX S D D9 → (mret x).1 S9 = some (r, S') → Q x σ9 := fun D9 σ9 S9 x h9 _ X9 e9 => by obtain ⟨rfl, rfl⟩ := mret_some e9; exact hq D9 σ9 h9 X9
  unfold f_X11_allocateLine at hp
  unfold w_X11_allocateLine
  obtain ⟨x51, S52, e52, L52, hp⟩ := mb_some hp
  refine q_X4_lacking h A2 e52 (fun D52 s52 h52 X52 => ?_)
  have hk := bup hk (L52 61)
  have hn := bup hn (L52 62)
  have X0 := X0.tr L0 X52
  have L0 := L0.tr L52
  refine ⟨FU, ?_⟩
  have A0_s52 := A0.up L52 X52
  have A1_s52 := A1.up L52 X52
  have A2_s52 := A2.up L52 X52
  exact q_X11_allocateLine_8 hq FU _ _ _ _ _ _ _ _ _ _ h52 L0 X0 A0_s52 A1_s52 A2_s52 hp _ _ hk hn
set_option maxRecDepth 100000 in
set_option maxHeartbeats 1000000 in
theorem q_X11_refill_4 {D0 : Nat → Nat → Nat} {S0 S' : Ss} {r : Int32} {Q : Int32 → St → Prop} (hq : ∀ D σ S x, RC D σ S → zle S0 S → DX S0 D0 D → (mret x).1 S = some (r, S') → Q x σ) : ∀ (f : Nat) (D : Nat → Nat → Nat) (σ : St) (S : Ss) (a0 : Nat) (x1 : Int32) (x2 : Int32), RC D σ S → zle S0 S → DX S0 D0 D → AT D S 11 0 a0 → (f_X11_refill_4 f x1 x2).1 S = some (r, S') → ∀ k n : Nat, zN S' 61 ≤ zN S 61 + k → zN S' 62 ≤ zN S 62 + n → w_X11_refill_4 Q  f a0 x1 x2 σ k n := by
  intro f
  induction f with
  | zero => intro D σ S a0 x1 x2 h L0 X0 A0 hp k n hk hn; cases hp
  | succ f ih =>
    intro D σ S a0 x1 x2 h L0 X0 A0 hp k n hk hn
    unfold f_X11_refill_4 at hp
    unfold w_X11_refill_4
    replace hp := mrd_some hp
    intro o51 ho51
    obtain ⟨b51, p51, B51⟩ := h.arr 1100 9 rfl A0 ho51
    refine ⟨b51, p51, ?_⟩
    refine ⟨fun c => ?_, fun c => ?_⟩
    · rw [h.aln 1100 9 rfl B51] at c
      replace hp := mif_t hp c
      exact hq _ _ _ _ h L0 X0 hp
    · rw [h.aln 1100 9 rfl B51] at c
      replace hp := mif_f hp c
      intro o54 ho54
      obtain ⟨b54, p54, B54⟩ := h.lis 1108 11 10 rfl A0 ((lv_o (by decide)).mp A0.1) ho54
      refine ⟨b54, p54, ?_⟩
      obtain ⟨x56, ex56, hp⟩ := mbo_some hp
      refine q_size h (show lF 1108 11 10 = true from rfl) B54 ex56 ?_
      refine ⟨fun c => ?_, fun c => ?_⟩
      · replace hp := mif_t hp c
        exact hq _ _ _ _ h L0 X0 hp
      · replace hp := mif_f hp c
        intro o59 ho59
        obtain ⟨b59, p59, B59⟩ := h.arr 1100 9 rfl A0 ho59
        refine ⟨b59, p59, ?_⟩
        obtain ⟨v_1, hp⟩ := mix_some hp
        refine ⟨by rw [h.aln 1100 9 rfl B59]; exact v_1, ?_⟩
        intro o62 ho62
        have C62 := h.ael 1100 9 rfl B59 v_1
        rw [← ho62] at C62
        obtain ⟨b62, p62, B62⟩ := C62.so rfl
        refine ⟨b62, p62, ?_⟩
        intro o64 ho64
        obtain ⟨r64, e64, hp⟩ := mbo_some hp
        have B64 := h.refr 902 9 3 rfl B62
        rw [← ho64, ← e64] at B64
        refine ⟨fun c => ?_, fun a66 c => ?_⟩
        · replace hp := mcase_n hp (B64.no c)
          exact ih _ _ _ _ _ _ h L0 X0 A0 hp _ _ hk hn
        · obtain ⟨i66, e66, B66⟩ := B64.sa c
          replace hp := mcase_s hp e66
          intro o67 ho67
          obtain ⟨b67, p67, B67⟩ := h.arr 1100 9 rfl A0 ho67
          refine ⟨b67, p67, ?_⟩
          obtain ⟨v_2, hp⟩ := mix_some hp
          refine ⟨by rw [h.aln 1100 9 rfl B67]; exact v_2, ?_⟩
          intro o70 ho70
          have C70 := h.ael 1100 9 rfl B67 v_2
          rw [← ho70] at C70
          obtain ⟨b70, p70, B70⟩ := C70.so rfl
          refine ⟨b70, p70, ?_⟩
          obtain ⟨x72, S73, e73, L73, hp⟩ := mb_some hp
          have M73 := mle hp
          obtain ⟨k74, k76, f1, f2, hk⟩ := bud (L73 61) (M73 61) hk
          obtain ⟨n75, n77, g1, g2, hn⟩ := bud (L73 62) (M73 62) hn
          refine ⟨k74, n75, k76, n77, f1, g1, q_X11_refillFace h A0 B70 e73 f2 g2 (fun D73 s73 h73 X73 => ?_)⟩
          have X0 := X0.tr L0 X73
          have L0 := L0.tr L73
          refine ⟨fun c => ?_, fun c => ?_⟩
          · replace hp := mif_t hp c
            have A0_s73 := A0.up L73 X73
            exact ih _ _ _ _ _ _ h73 L0 X0 A0_s73 hp _ _ hk hn
          · replace hp := mif_f hp c
            have A0_s73 := A0.up L73 X73
            exact ih _ _ _ _ _ _ h73 L0 X0 A0_s73 hp _ _ hk hn
set_option maxRecDepth 100000 in
set_option maxHeartbeats 1000000 in
theorem q_X11_refill {D : Nat → Nat → Nat} {σ : St} {S S' : Ss} {a0 : Nat} {r : Int32} (h : RC D σ S) (A0 : AT D S 11 0 a0) (hp : (f_X11_refill ).1 S = some (r, S')) {k n : Nat} (hk : zN S' 61 ≤ zN S 61 + k) (hn : zN S' 62 ≤ zN S 62 + n) {Q : Int32 → St → Prop} (hq : ∀ D' τ, RC D' τ S' → DX S D D' → Q r τ) : w_X11_refill k n a0 σ Q := by
  have L0 := zle.rf S
  have X0 := DX.rf S D
  replace hq : ∀ D9 σ9 S9 x, RC D9 σ9 S9 → zle S S9 → DX S D D9 → (mret x).1 S9 = some (r, S') → Q x σ9 := fun D9 σ9 S9 x h9 _ X9 e9 => by obtain ⟨rfl, rfl⟩ := mret_some e9; exact hq D9 σ9 h9 X9
  unfold f_X11_refill at hp
  unfold w_X11_refill
  refine ⟨FU, ?_⟩
  exact q_X11_refill_4 hq FU _ _ _ _ _ _ h L0 X0 A0 hp _ _ hk hn
set_option maxRecDepth 100000 in
set_option maxHeartbeats 1000000 in
theorem q_X11_allocateOrder_21 {D0 : Nat → Nat → Nat} {S0 S' : Ss} {r : Int32} {Q : Int32 → St → Prop} (hq : ∀ D σ S x, RC D σ S → zle S0 S → DX S0 D0 D → (mret x).1 S = some (r, S') → Q x σ) : ∀ (f : Nat) (D : Nat → Nat → Nat) (σ : St) (S : Ss) (a0 : Nat) (a1 : Nat) (i1 : Nat) (x2 : Int32) (x3 : Int32), RC D σ S → zle S0 S → DX S0 D0 D → AT D S 11 0 a0 → AT D S 7 i1 a1 → (f_X11_allocateOrder_21 f i1 x2 x3).1 S = some (r, S') → ∀ k n : Nat, zN S' 61 ≤ zN S 61 + k → zN S' 62 ≤ zN S 62 + n → w_X11_allocateOrder_21 Q  f a0 a1 x2 x3 σ k n := by
  intro f
  induction f with
  | zero => intro D σ S a0 a1 i1 x2 x3 h L0 X0 A0 A1 hp k n hk hn; cases hp
  | succ f ih =>
    intro D σ S a0 a1 i1 x2 x3 h L0 X0 A0 A1 hp k n hk hn
    unfold f_X11_allocateOrder_21 at hp
    unfold w_X11_allocateOrder_21
    replace hp := mrd_some hp
    intro o52 ho52
    obtain ⟨g52, hp⟩ := mgd_some hp
    obtain ⟨b52, p52, B52⟩ := h.lis 704 7 4 rfl A1 (of_decide_eq_true g52) ho52
    refine ⟨b52, p52, ?_⟩
    obtain ⟨x54, ex54, hp⟩ := mbo_some hp
    refine q_size h (show lF 704 7 4 = true from rfl) B52 ex54 ?_
    refine ⟨fun c => ?_, fun c => ?_⟩
    · replace hp := mif_t hp c
      exact hq _ _ _ _ h L0 X0 hp
    · replace hp := mif_f hp c
      intro o57 ho57
      obtain ⟨g57, hp⟩ := mgd_some hp
      obtain ⟨b57, p57, B57⟩ := h.lis 704 7 4 rfl A1 (of_decide_eq_true g57) ho57
      refine ⟨b57, p57, ?_⟩
      obtain ⟨i59, e59, hp⟩ := mlget_some hp
      refine q_get h (show lF 704 7 4 = true from rfl) B57 e59 (fun b59 B59 => ?_)
      refine ⟨b59, rfl, ?_⟩
      refine ⟨h.ob (by decide) B59, ?_⟩
      obtain ⟨x63, S64, e64, L64, hp⟩ := mb_some hp
      have M64 := mle hp
      obtain ⟨k65, k67, f1, f2, hk⟩ := bud (L64 61) (M64 61) hk
      obtain ⟨n66, n68, g1, g2, hn⟩ := bud (L64 62) (M64 62) hn
      refine ⟨k65, n66, k67, n68, f1, g1, q_X11_allocateLine h A0 A1 B59 e64 f2 g2 (fun D64 s64 h64 X64 => ?_)⟩
      have X0 := X0.tr L0 X64
      have L0 := L0.tr L64
      intro x71 hx71
      obtain ⟨yx71, ex71, hp⟩ := mbo_some hp
      obtain rfl : yx71 = x71 := ex71.trans hx71.symm
      have A0_s64 := A0.up L64 X64
      have A1_s64 := A1.up L64 X64
      exact ih _ _ _ _ _ _ _ _ h64 L0 X0 A0_s64 A1_s64 hp _ _ hk hn
set_option maxRecDepth 100000 in
set_option maxHeartbeats 1000000 in
theorem q_X11_allocateOrder {D : Nat → Nat → Nat} {σ : St} {S S' : Ss} {a0 : Nat} {a1 : Nat} {i1 : Nat} {r : Int32} (h : RC D σ S) (A0 : AT D S 11 0 a0) (A1 : AT D S 7 i1 a1) (hp : (f_X11_allocateOrder i1).1 S = some (r, S')) {k n : Nat} (hk : zN S' 61 ≤ zN S 61 + k) (hn : zN S' 62 ≤ zN S 62 + n) {Q : Int32 → St → Prop} (hq : ∀ D' τ, RC D' τ S' → DX S D D' → Q r τ) : w_X11_allocateOrder k n a0 a1 σ Q := by
  have L0 := zle.rf S
  have X0 := DX.rf S D
  replace hq : ∀ D9 σ9 S9 x, RC D9 σ9 S9 → zle S S9 → DX S D D9 → (mret x).1 S9 = some (r, S') → Q x σ9 := fun D9 σ9 S9 x h9 _ X9 e9 => by obtain ⟨rfl, rfl⟩ := mret_some e9; exact hq D9 σ9 h9 X9
  unfold f_X11_allocateOrder at hp
  unfold w_X11_allocateOrder
  replace hp := mrd_some hp
  refine ⟨fun c => ?_, fun c => ?_⟩
  · rw [h.int 702 7 rfl (by decide) A1] at c
    replace hp := mif_t hp c
    refine ⟨FU, ?_⟩
    exact q_X11_allocateOrder_21 hq FU _ _ _ _ _ _ _ _ h L0 X0 A0 A1 hp _ _ hk hn
  · rw [h.int 702 7 rfl (by decide) A1] at c
    replace hp := mif_f hp c
    obtain ⟨x73, S74, e74, L74, hp⟩ := mb_some hp
    refine q_X11_canBeWhole h A0 A1 e74 (fun D74 s74 h74 X74 => ?_)
    have hk := bup hk (L74 61)
    have hn := bup hn (L74 62)
    have X0 := X0.tr L0 X74
    have L0 := L0.tr L74
    refine ⟨fun c => ?_, fun c => ?_⟩
    · replace hp := mif_f hp c
      refine ⟨FU, ?_⟩
      have A0_s74 := A0.up L74 X74
      have A1_s74 := A1.up L74 X74
      exact q_X11_allocateOrder_21 hq FU _ _ _ _ _ _ _ _ h74 L0 X0 A0_s74 A1_s74 hp _ _ hk hn
    · replace hp := mif_t hp c
      exact hq _ _ _ _ h74 L0 X0 hp
set_option maxRecDepth 100000 in
set_option maxHeartbeats 1000000 in
theorem q_X11_allocate_11 {D0 : Nat → Nat → Nat} {S0 S' : Ss} {r : Int32} {Q : Int32 → St → Prop} (hq : ∀ D σ S x, RC D σ S → zle S0 S → DX S0 D0 D → (mret x).1 S = some (r, S') → Q x σ) {K5 : Nat → Int32 → Int32 → St → Nat → Nat → Prop} {LK5 : Int32 → Int32 → MM (Int32)} (hK5 : ∀ (D : Nat → Nat → Nat) (σ : St) (S : Ss) (a0 : Nat) (x1 : Int32) (x2 : Int32), RC D σ S → zle S0 S → DX S0 D0 D → AT D S 11 0 a0 → (LK5 x1 x2).1 S = some (r, S') → ∀ k n : Nat, zN S' 61 ≤ zN S 61 + k → zN S' 62 ≤ zN S 62 + n → K5 a0 x1 x2 σ k n) : ∀ (f : Nat) (D : Nat → Nat → Nat) (σ : St) (S : Ss) (a0 : Nat) (x1 : Int32) (x2 : Int32) (x3 : Int32), RC D σ S → zle S0 S → DX S0 D0 D → AT D S 11 0 a0 → (f_X11_allocate_11 LK5 f x1 x2 x3).1 S = some (r, S') → ∀ k n : Nat, zN S' 61 ≤ zN S 61 + k → zN S' 62 ≤ zN S 62 + n → w_X11_allocate_11 Q K5 f a0 x1 x2 x3 σ k n := by
  intro f
  induction f with
  | zero => intro D σ S a0 x1 x2 x3 h L0 X0 A0 hp k n hk hn; cases hp
  | succ f ih =>
    intro D σ S a0 x1 x2 x3 h L0 X0 A0 hp k n hk hn
    unfold f_X11_allocate_11 at hp
    unfold w_X11_allocate_11
    replace hp := mrd_some hp
    intro o52 ho52
    obtain ⟨b52, p52, B52⟩ := h.lis 1106 11 7 rfl A0 ((lv_o (by decide)).mp A0.1) ho52
    refine ⟨b52, p52, ?_⟩
    obtain ⟨x54, ex54, hp⟩ := mbo_some hp
    refine q_size h (show lF 1106 11 7 = true from rfl) B52 ex54 ?_
    refine ⟨fun c => ?_, fun c => ?_⟩
    · replace hp := mif_t hp c
      exact hK5 _ _ _ _ _ _ h L0 X0 A0 hp _ _ hk hn
    · replace hp := mif_f hp c
      intro o57 ho57
      obtain ⟨b57, p57, B57⟩ := h.lis 1106 11 7 rfl A0 ((lv_o (by decide)).mp A0.1) ho57
      refine ⟨b57, p57, ?_⟩
      obtain ⟨i59, e59, hp⟩ := mlget_some hp
      refine q_get h (show lF 1106 11 7 = true from rfl) B57 e59 (fun b59 B59 => ?_)
      refine ⟨b59, rfl, ?_⟩
      refine ⟨h.ob (by decide) B59, ?_⟩
      refine ⟨fun c => ?_, fun c => ?_⟩
      · rw [h.int 701 7 rfl (by decide) B59] at c
        replace hp := mif_f hp c
        exact ih _ _ _ _ _ _ _ h L0 X0 A0 hp _ _ hk hn
      · rw [h.int 701 7 rfl (by decide) B59] at c
        replace hp := mif_t hp c
        refine ⟨fun c => ?_, fun c => ?_⟩
        · rw [h.int 705 7 rfl (by decide) B59] at c
          replace hp := mif_f hp c
          exact ih _ _ _ _ _ _ _ h L0 X0 A0 hp _ _ hk hn
        · rw [h.int 705 7 rfl (by decide) B59] at c
          replace hp := mif_t hp c
          obtain ⟨x65, S66, e66, L66, hp⟩ := mb_some hp
          have M66 := mle hp
          obtain ⟨k67, k69, f1, f2, hk⟩ := bud (L66 61) (M66 61) hk
          obtain ⟨n68, n70, g1, g2, hn⟩ := bud (L66 62) (M66 62) hn
          refine ⟨k67, n68, k69, n70, f1, g1, q_X11_allocateOrder h A0 B59 e66 f2 g2 (fun D66 s66 h66 X66 => ?_)⟩
          have X0 := X0.tr L0 X66
          have L0 := L0.tr L66
          intro x73 hx73
          obtain ⟨yx73, ex73, hp⟩ := mbo_some hp
          obtain rfl : yx73 = x73 := ex73.trans hx73.symm
          have A0_s66 := A0.up L66 X66
          exact ih _ _ _ _ _ _ _ h66 L0 X0 A0_s66 hp _ _ hk hn
set_option maxRecDepth 100000 in
set_option maxHeartbeats 1000000 in
theorem q_X11_allocate_5 {D0 : Nat → Nat → Nat} {S0 S' : Ss} {r : Int32} {Q : Int32 → St → Prop} (hq : ∀ D σ S x, RC D σ S → zle S0 S → DX S0 D0 D → (mret x).1 S = some (r, S') → Q x σ) : ∀ (f : Nat) (D : Nat → Nat → Nat) (σ : St) (S : Ss) (a0 : Nat) (x1 : Int32) (x2 : Int32), RC D σ S → zle S0 S → DX S0 D0 D → AT D S 11 0 a0 → (f_X11_allocate_5 f x1 x2).1 S = some (r, S') → ∀ k n : Nat, zN S' 61 ≤ zN S 61 + k → zN S' 62 ≤ zN S 62 + n → w_X11_allocate_5 Q  f a0 x1 x2 σ k n := by
  intro f
  induction f with
  | zero => intro D σ S a0 x1 x2 h L0 X0 A0 hp k n hk hn; cases hp
  | succ f ih =>
    intro D σ S a0 x1 x2 h L0 X0 A0 hp k n hk hn
    unfold f_X11_allocate_5 at hp
    unfold w_X11_allocate_5
    refine ⟨fun c => ?_, fun c => ?_⟩
    · replace hp := mif_t hp c
      exact hq _ _ _ _ h L0 X0 hp
    · replace hp := mif_f hp c
      refine ⟨FU, ?_⟩
      exact q_X11_allocate_11 hq ih FU _ _ _ _ _ _ _ h L0 X0 A0 hp _ _ hk hn
set_option maxRecDepth 100000 in
set_option maxHeartbeats 1000000 in
theorem q_X11_allocate {D : Nat → Nat → Nat} {σ : St} {S S' : Ss} {a0 : Nat} {r : Int32} (h : RC D σ S) (A0 : AT D S 11 0 a0) (hp : (f_X11_allocate ).1 S = some (r, S')) {k n : Nat} (hk : zN S' 61 ≤ zN S 61 + k) (hn : zN S' 62 ≤ zN S 62 + n) {Q : Int32 → St → Prop} (hq : ∀ D' τ, RC D' τ S' → DX S D D' → Q r τ) : w_X11_allocate k n a0 σ Q := by
  have L0 := zle.rf S
  have X0 := DX.rf S D
  replace hq : ∀ D9 σ9 S9 x, RC D9 σ9 S9 → zle S S9 → DX S D D9 → (mret x).1 S9 = some (r, S') → Q x σ9 := fun D9 σ9 S9 x h9 _ X9 e9 => by obtain ⟨rfl, rfl⟩ := mret_some e9; exact hq D9 σ9 h9 X9
  unfold f_X11_allocate at hp
  unfold w_X11_allocate
  refine ⟨FU, ?_⟩
  exact q_X11_allocate_5 hq FU _ _ _ _ _ _ h L0 X0 A0 hp _ _ hk hn
