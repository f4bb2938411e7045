set_option maxRecDepth 100000 in
set_option maxHeartbeats 1000000 in
theorem q_X11_openBox {D : Nat → Nat → Nat} {σ : St} {S S' : Ss} {a0 : Nat} {r : Unit} (h : RC D σ S) (A0 : AT D S 11 0 a0) (hp : (f_X11_openBox ).1 S = some (r, S')) {Q : St → Prop} (hq : ∀ D' τ, RC D' τ S' → DX S D D' → Q τ) : w_X11_openBox a0 σ Q := by
  have L0 := zle.rf S
  have X0 := DX.rf S D
  replace hq : ∀ D9 σ9 S9, RC D9 σ9 S9 → zle S S9 → DX S D D9 → (mret ()).1 S9 = some (r, S') → Q σ9 := fun D9 σ9 S9 h9 _ X9 e9 => by obtain ⟨rfl, rfl⟩ := mret_some e9; exact hq D9 σ9 h9 X9
  unfold f_X11_openBox at hp
  unfold w_X11_openBox
  refine ⟨FU, ?_⟩
  exact q_X11_openBox_2 hq FU _ _ _ _ _ h L0 X0 A0 hp
set_option maxRecDepth 100000 in
set_option maxHeartbeats 1000000 in
theorem q_X11_piecesToPack {D : Nat → Nat → Nat} {σ : St} {S S' : Ss} {a0 : Nat} {a1 : Nat} {i1 : Nat} {a2 : Nat} {i2 : Nat} {r : Int32} (h : RC D σ S) (A0 : AT D S 11 0 a0) (A1 : AT D S 7 i1 a1) (A2 : AT D S 3 i2 a2) (hp : (f_X11_piecesToPack i1 i2).1 S = some (r, S')) {Q : Int32 → St → Prop} (hq : ∀ D' τ, RC D' τ S' → DX S D D' → Q r τ) : w_X11_piecesToPack a0 a1 a2 σ Q := by
  have L0 := zle.rf S
  have X0 := DX.rf S D
  replace hq : ∀ D9 σ9 S9 x, RC D9 σ9 S9 → zle S S9 → DX S D D9 → (mret x).1 S9 = some (r, S') → Q x σ9 := fun D9 σ9 S9 x h9 _ X9 e9 => by obtain ⟨rfl, rfl⟩ := mret_some e9; exact hq D9 σ9 h9 X9
  unfold f_X11_piecesToPack at hp
  unfold w_X11_piecesToPack
  replace hp := mrd_some hp
  refine ⟨fun c => ?_, fun c => ?_⟩
  · rw [h.int 705 7 rfl (by decide) A1] at c
    replace hp := mif_t hp c
    intro o52 ho52
    obtain ⟨b52, p52, B52⟩ := h.bok A0 ho52
    refine ⟨b52, p52, ?_⟩
    intro o54 ho54
    obtain ⟨b54, p54, B54⟩ := h.cel 1 0 rfl B52 ho54
    refine ⟨b54, p54, ?_⟩
    rw [h.int 700 7 rfl (by decide) A1, h.int 300 3 rfl (by decide) A2]
    obtain ⟨x56, ex56, hp⟩ := mbo_some hp
    refine q_at h (show cF 1 0 = true from rfl) B54 ex56 ?_
    exact hq _ _ _ _ h L0 X0 hp
  · rw [h.int 705 7 rfl (by decide) A1] at c
    replace hp := mif_f hp c
    intro o58 ho58
    obtain ⟨b58, p58, B58⟩ := h.cel 1112 11 rfl A0 ho58
    refine ⟨b58, p58, ?_⟩
    rw [h.int 700 7 rfl (by decide) A1, h.int 300 3 rfl (by decide) A2]
    obtain ⟨x60, ex60, hp⟩ := mbo_some hp
    refine q_at h (show cF 1112 11 = true from rfl) B58 ex60 ?_
    exact hq _ _ _ _ h L0 X0 hp
set_option maxRecDepth 100000 in
set_option maxHeartbeats 1000000 in
theorem q_X11_putIntoBox {D : Nat → Nat → Nat} {σ : St} {S S' : Ss} {a0 : Nat} {x1 : Int32} {a2 : Nat} {i2 : Nat} {r : Unit} (h : RC D σ S) (A0 : AT D S 11 0 a0) (A2 : AT D S 3 i2 a2) (hp : (f_X11_putIntoBox x1 i2).1 S = some (r, S')) {Q : St → Prop} (hq : ∀ D' τ, RC D' τ S' → DX S D D' → Q τ) : w_X11_putIntoBox a0 x1 a2 σ Q := by
  have L0 := zle.rf S
  have X0 := DX.rf S D
  replace hq : ∀ D9 σ9 S9, RC D9 σ9 S9 → zle S S9 → DX S D D9 → (mret ()).1 S9 = some (r, S') → Q σ9 := fun D9 σ9 S9 h9 _ X9 e9 => by obtain ⟨rfl, rfl⟩ := mret_some e9; exact hq D9 σ9 h9 X9
  unfold f_X11_putIntoBox at hp
  unfold w_X11_putIntoBox
  replace hp := mrd_some hp
  intro o51 ho51
  obtain ⟨b51, p51, B51⟩ := h.cel 1113 11 rfl A0 ho51
  refine ⟨b51, p51, ?_⟩
  rw [h.int 302 3 rfl (by decide) A2]
  obtain ⟨S54, z54, L54, hp⟩ := mst_some hp
  refine q_addc h (show cF 1113 11 = true from rfl) B51 (fun s54 h54 => ?_)
  rw [z54] at h54
  have L0 := L0.tr L54
  replace hp := mrd_some hp
  have A0_s54 := A0.up L54 (DX.rf _ _)
  intro o55 ho55
  obtain ⟨b55, p55, B55⟩ := h54.cel 1113 11 rfl A0_s54 ho55
  refine ⟨b55, p55, ?_⟩
  have A2_s54 := A2.up L54 (DX.rf _ _)
  rw [h54.int 303 3 rfl (by decide) A2_s54]
  obtain ⟨S58, z58, L58, hp⟩ := mst_some hp
  refine q_addc h54 (show cF 1113 11 = true from rfl) B55 (fun s58 h58 => ?_)
  rw [z58] at h58
  have L0 := L0.tr L58
  have A0_s58 := A0_s54.up L58 (DX.rf _ _)
  intro o59 ho59
  obtain ⟨b59, p59, B59⟩ := h58.cel 1113 11 rfl A0_s58 ho59
  refine ⟨b59, p59, ?_⟩
  obtain ⟨S62, z62, L62, hp⟩ := mst_some hp
  refine q_addc h58 (show cF 1113 11 = true from rfl) B59 (fun s62 h62 => ?_)
  rw [z62] at h62
  have L0 := L0.tr L62
  replace hp := mrd_some hp
  have A0_s62 := A0_s58.up L62 (DX.rf _ _)
  intro o63 ho63
  obtain ⟨b63, p63, B63⟩ := h62.cel 1113 11 rfl A0_s62 ho63
  intro o64 ho64
  obtain ⟨b64, p64, B64⟩ := h62.cel 1113 11 rfl A0_s62 ho64
  refine ⟨b64, p64, ?_⟩
  obtain ⟨x66, ex66, hp⟩ := mbo_some hp
  refine q_at h62 (show cF 1113 11 = true from rfl) B64 ex66 ?_
  refine ⟨b63, p63, ?_⟩
  have A2_s58 := A2_s54.up L58 (DX.rf _ _)
  have A2_s62 := A2_s58.up L62 (DX.rf _ _)
  rw [h62.int 300 3 rfl (by decide) A2_s62]
  obtain ⟨S70, z70, L70, hp⟩ := mst_some hp
  refine q_put h62 (show cF 1113 11 = true from rfl) B63 (fun s70 h70 => ?_)
  rw [z70] at h70
  have L0 := L0.tr L70
  exact hq _ _ _ h70 L0 X0 hp
set_option maxRecDepth 100000 in
set_option maxHeartbeats 1000000 in
theorem q_X11_release_53 {D0 : Nat → Nat → Nat} {S0 S' : Ss} {r : Unit} {Q : St → Prop} (hq : ∀ D σ S, RC D σ S → zle S0 S → DX S0 D0 D → (mret ()).1 S = some (r, S') → Q σ) : ∀ (D : Nat → Nat → Nat) (σ : St) (S : Ss) (a0 : Nat) (a1 : Nat) (i1 : Nat) (x2 : Int32), RC D σ S → zle S0 S → DX S0 D0 D → AT D S 11 0 a0 → AT D S 2 i1 a1 → (f_X11_release_53 i1 x2).1 S = some (r, S') → w_X11_release_53 Q  a0 a1 x2 σ := by
  intro D σ S a0 a1 i1 x2 h L0 X0 A0 A1 hp
  unfold f_X11_release_53 at hp
  unfold w_X11_release_53
  replace hp := mrd_some hp
  intro o63 ho63
  obtain ⟨r63, e63, hp⟩ := mbo_some hp
  have B63 := h.refr 205 2 10 rfl A1
  rw [← ho63, ← e63] at B63
  refine ⟨fun c => ?_, fun a65 c => ?_⟩
  · replace hp := mcase_n hp (B63.no c)
    exact hq _ _ _ h L0 X0 hp
  · obtain ⟨i65, e65, B65⟩ := B63.sa c
    replace hp := mcase_s hp e65
    intro o66 ho66
    obtain ⟨r66, e66, hp⟩ := mbo_some hp
    have B66 := h.refr 205 2 10 rfl A1
    rw [← ho66, ← e66] at B66
    obtain ⟨i67, e67, hp⟩ := mopt_some hp
    obtain ⟨a67, p67, B67⟩ := B66.so e67
    refine ⟨a67, p67, ?_⟩
    refine ⟨fun c => ?_, fun c => ?_⟩
    · rw [h.int 1001 10 rfl (by decide) B67] at c
      replace hp := mif_t hp c
      exact hq _ _ _ h L0 X0 hp
    · rw [h.int 1001 10 rfl (by decide) B67] at c
      replace hp := mif_f hp c
      intro o69 ho69
      obtain ⟨b69, p69, B69⟩ := h.bok A0 ho69
      refine ⟨b69, p69, ?_⟩
      intro o71 ho71
      obtain ⟨b71, p71, B71⟩ := h.cel 4 0 rfl B69 ho71
      intro o72 ho72
      obtain ⟨r72, e72, hp⟩ := mbo_some hp
      have B72 := h.refr 205 2 10 rfl A1
      rw [← ho72, ← e72] at B72
      obtain ⟨i73, e73, hp⟩ := mopt_some hp
      obtain ⟨a73, p73, B73⟩ := B72.so e73
      refine ⟨a73, p73, ?_⟩
      intro o74 ho74
      obtain ⟨r74, e74, hp⟩ := mbo_some hp
      have B74 := h.refr 203 2 5 rfl A1
      rw [← ho74, ← e74] at B74
      obtain ⟨i75, e75, hp⟩ := mopt_some hp
      obtain ⟨a75, p75, B75⟩ := B74.so e75
      refine ⟨a75, p75, ?_⟩
      intro o76 ho76
      obtain ⟨r76, e76, hp⟩ := mbo_some hp
      have B76 := h.refr 501 5 3 rfl B75
      rw [← ho76, ← e76] at B76
      obtain ⟨i77, e77, hp⟩ := mopt_some hp
      obtain ⟨a77, p77, B77⟩ := B76.so e77
      refine ⟨a77, p77, ?_⟩
      refine ⟨b71, p71, ?_⟩
      rw [h.int 1003 10 rfl (by decide) B73, h.int 300 3 rfl (by decide) B77]
      obtain ⟨S80, z80, L80, hp⟩ := mst_some hp
      refine q_addc h (show cF 4 0 = true from rfl) B71 (fun s80 h80 => ?_)
      rw [z80] at h80
      have L0 := L0.tr L80
      exact hq _ _ _ h80 L0 X0 hp
set_option maxRecDepth 100000 in
set_option maxHeartbeats 1000000 in
theorem q_X11_release {D : Nat → Nat → Nat} {σ : St} {S S' : Ss} {a0 : Nat} {a1 : Nat} {i1 : Nat} {x2 : Int32} {r : Unit} (h : RC D σ S) (A0 : AT D S 11 0 a0) (A1 : AT D S 2 i1 a1) (hp : (f_X11_release i1 x2).1 S = some (r, S')) {Q : St → Prop} (hq : ∀ D' τ, RC D' τ S' → DX S D D' → Q τ) : w_X11_release a0 a1 x2 σ Q := by
  have L0 := zle.rf S
  have X0 := DX.rf S D
  replace hq : ∀ D9 σ9 S9, RC D9 σ9 S9 → zle S S9 → DX S D D9 → (mret ()).1 S9 = some (r, S') → Q σ9 := fun D9 σ9 S9 h9 _ X9 e9 => by obtain ⟨rfl, rfl⟩ := mret_some e9; exact hq D9 σ9 h9 X9
  unfold f_X11_release at hp
  unfold w_X11_release
  replace hp := mrd_some hp
  intro s51 es51
  rw [h.int 204 2 rfl (by decide) A1] at es51
  obtain ⟨S51, z51, L51, hp⟩ := mst_some hp
  have h51 := h.wI (rfl : 204 / 100 = 2) (by decide) (by decide) A1 es51
  rw [z51] at h51
  have L0 := L0.tr L51
  replace hp := mrd_some hp
  have A0_s51 := A0.up L51 (DX.rf _ _)
  intro o52 ho52
  obtain ⟨b52, p52, B52⟩ := h51.bok A0_s51 ho52
  refine ⟨b52, p52, ?_⟩
  intro o54 ho54
  obtain ⟨b54, p54, B54⟩ := h51.cel 3 0 rfl B52 ho54
  have A1_s51 := A1.up L51 (DX.rf _ _)
  intro o55 ho55
  obtain ⟨r55, e55, hp⟩ := mbo_some hp
  have B55 := h51.refr 203 2 5 rfl A1_s51
  rw [← ho55, ← e55] at B55
  obtain ⟨i56, e56, hp⟩ := mopt_some hp
  obtain ⟨a56, p56, B56⟩ := B55.so e56
  refine ⟨a56, p56, ?_⟩
  refine ⟨b54, p54, ?_⟩
  rw [h51.int 202 2 rfl (by decide) A1_s51, h51.int 500 5 rfl (by decide) B56]
  obtain ⟨S59, z59, L59, hp⟩ := mst_some hp
  refine q_addc h51 (show cF 3 0 = true from rfl) B54 (fun s59 h59 => ?_)
  rw [z59] at h59
  have L0 := L0.tr L59
  replace hp := mrd_some hp
  have A1_s59 := A1_s51.up L59 (DX.rf _ _)
  intro o60 ho60
  obtain ⟨r60, e60, hp⟩ := mbo_some hp
  have B60 := h59.refr 201 2 4 rfl A1_s59
  rw [← ho60, ← e60] at B60
  refine ⟨fun c => ?_, fun a62 c => ?_⟩
  · replace hp := mcase_n hp (B60.no c)
    have A0_s59 := A0_s51.up L59 (DX.rf _ _)
    exact q_X11_release_53 hq  _ _ _ _ _ _ _ h59 L0 X0 A0_s59 A1_s59 hp
  · obtain ⟨i62, e62, B62⟩ := B60.sa c
    replace hp := mcase_s hp e62
    intro o81 ho81
    obtain ⟨r81, e81, hp⟩ := mbo_some hp
    have B81 := h59.refr 201 2 4 rfl A1_s59
    rw [← ho81, ← e81] at B81
    obtain ⟨i82, e82, hp⟩ := mopt_some hp
    obtain ⟨a82, p82, B82⟩ := B81.so e82
    refine ⟨a82, p82, ?_⟩
    intro s83 es83
    rw [h59.int 402 4 rfl (by decide) B82] at es83
    obtain ⟨S83, z83, L83, hp⟩ := mst_some hp
    have h83 := h59.wI (rfl : 402 / 100 = 4) (by decide) (by decide) B82 es83
    rw [z83] at h83
    have L0 := L0.tr L83
    have A0_s59 := A0_s51.up L59 (DX.rf _ _)
    have A0_s83 := A0_s59.up L83 (DX.rf _ _)
    have A1_s83 := A1_s59.up L83 (DX.rf _ _)
    exact q_X11_release_53 hq  _ _ _ _ _ _ _ h83 L0 X0 A0_s83 A1_s83 hp
set_option maxRecDepth 100000 in
set_option maxHeartbeats 1000000 in
theorem q_X11_strangeness {D : Nat → Nat → Nat} {σ : St} {S S' : Ss} {a0 : Nat} {x1 : Int32} {a2 : Nat} {i2 : Nat} {r : Int32} (h : RC D σ S) (A0 : AT D S 11 0 a0) (A2 : AT D S 5 i2 a2) (hp : (f_X11_strangeness x1 i2).1 S = some (r, S')) {Q : Int32 → St → Prop} (hq : ∀ D' τ, RC D' τ S' → DX S D D' → Q r τ) : w_X11_strangeness a0 x1 a2 σ Q := by
  have L0 := zle.rf S
  have X0 := DX.rf S D
  replace hq : ∀ D9 σ9 S9 x, RC D9 σ9 S9 → zle S S9 → DX S D D9 → (mret x).1 S9 = some (r, S') → Q x σ9 := fun D9 σ9 S9 x h9 _ X9 e9 => by obtain ⟨rfl, rfl⟩ := mret_some e9; exact hq D9 σ9 h9 X9
  unfold f_X11_strangeness at hp
  unfold w_X11_strangeness
  replace hp := mrd_some hp
  intro o51 ho51
  obtain ⟨b51, p51, B51⟩ := h.bok A0 ho51
  refine ⟨b51, p51, ?_⟩
  intro o53 ho53
  obtain ⟨b53, p53, B53⟩ := h.cel 0 0 rfl B51 ho53
  refine ⟨b53, p53, ?_⟩
  rw [h.int 500 5 rfl (by decide) A2]
  obtain ⟨x55, ex55, hp⟩ := mbo_some hp
  refine q_at h (show cF 0 0 = true from rfl) B53 ex55 ?_
  refine ⟨fun c => ?_, fun c => ?_⟩
  · replace hp := mif_t hp c
    intro o58 ho58
    obtain ⟨b58, p58, B58⟩ := h.bok A0 ho58
    refine ⟨b58, p58, ?_⟩
    intro o60 ho60
    obtain ⟨b60, p60, B60⟩ := h.cel 1 0 rfl B58 ho60
    intro o61 ho61
    obtain ⟨r61, e61, hp⟩ := mbo_some hp
    have B61 := h.refr 501 5 3 rfl A2
    rw [← ho61, ← e61] at B61
    obtain ⟨i62, e62, hp⟩ := mopt_some hp
    obtain ⟨a62, p62, B62⟩ := B61.so e62
    refine ⟨a62, p62, ?_⟩
    refine ⟨b60, p60, ?_⟩
    rw [h.int 300 3 rfl (by decide) B62]
    obtain ⟨x64, ex64, hp⟩ := mbo_some hp
    refine q_at h (show cF 1 0 = true from rfl) B60 ex64 ?_
    refine ⟨fun c => ?_, fun c => ?_⟩
    · replace hp := mif_t hp c
      exact hq _ _ _ _ h L0 X0 hp
    · replace hp := mif_f hp c
      exact hq _ _ _ _ h L0 X0 hp
  · replace hp := mif_f hp c
    exact hq _ _ _ _ h L0 X0 hp
set_option maxRecDepth 100000 in
set_option maxHeartbeats 1000000 in
theorem q_X11_tasks {D : Nat → Nat → Nat} {σ : St} {S S' : Ss} {a0 : Nat} {r : Int32} (h : RC D σ S) (A0 : AT D S 11 0 a0) (hp : (f_X11_tasks ).1 S = some (r, S')) {Q : Int32 → St → Prop} (hq : ∀ D' τ, RC D' τ S' → DX S D D' → Q r τ) : w_X11_tasks a0 σ Q := by
  have L0 := zle.rf S
  have X0 := DX.rf S D
  replace hq : ∀ D9 σ9 S9 x, RC D9 σ9 S9 → zle S S9 → DX S D D9 → (mret x).1 S9 = some (r, S') → Q x σ9 := fun D9 σ9 S9 x h9 _ X9 e9 => by obtain ⟨rfl, rfl⟩ := mret_some e9; exact hq D9 σ9 h9 X9
  unfold f_X11_tasks at hp
  unfold w_X11_tasks
  replace hp := mrd_some hp
  intro o51 ho51
  obtain ⟨b51, p51, B51⟩ := h.lis 1108 11 10 rfl A0 ((lv_o (by decide)).mp A0.1) ho51
  refine ⟨b51, p51, ?_⟩
  obtain ⟨x53, ex53, hp⟩ := mbo_some hp
  refine q_size h (show lF 1108 11 10 = true from rfl) B51 ex53 ?_
  exact hq _ _ _ _ h L0 X0 hp
set_option maxRecDepth 100000 in
set_option maxHeartbeats 1000000 in
theorem q_X11_turnInWave_28 {D0 : Nat → Nat → Nat} {S0 S' : Ss} {r : Int32} {Q : Int32 → St → Prop} (hq : ∀ D σ S x, RC D σ S → zle S0 S → DX S0 D0 D → (mret x).1 S = some (r, S') → Q x σ) : ∀ (D : Nat → Nat → Nat) (σ : St) (S : Ss) (a0 : Nat) (i0 : Nat) (x1 : Int32) (xs0 : Int32), RC D σ S → zle S0 S → DX S0 D0 D → AT D S 2 i0 a0 → (f_X11_turnInWave_28 i0 x1 xs0).1 S = some (r, S') → w_X11_turnInWave_28 Q  a0 x1 xs0 σ := by
  intro D σ S a0 i0 x1 xs0 h L0 X0 A0 hp
  unfold f_X11_turnInWave_28 at hp
  unfold w_X11_turnInWave_28
  replace hp := mrd_some hp
  intro x54 hx54
  obtain ⟨yx54, ex54, hp⟩ := mbo_some hp
  obtain rfl : yx54 = x54 := ex54.trans hx54.symm
  intro o55 ho55
  obtain ⟨r55, e55, hp⟩ := mbo_some hp
  have B55 := h.refr 203 2 5 rfl A0
  rw [← ho55, ← e55] at B55
  obtain ⟨i56, e56, hp⟩ := mopt_some hp
  obtain ⟨a56, p56, B56⟩ := B55.so e56
  refine ⟨a56, p56, ?_⟩
  obtain ⟨x57, S58, e58, L58, hp⟩ := mb_some hp
  refine q_X2_turn h A0 e58 (fun D58 s58 h58 X58 => ?_)
  have X0 := X0.tr L0 X58
  have L0 := L0.tr L58
  rw [h.int 500 5 rfl (by decide) B56]
  exact hq _ _ _ _ h58 L0 X0 hp
set_option maxRecDepth 100000 in
set_option maxHeartbeats 1000000 in
theorem q_X11_turnInWave {D : Nat → Nat → Nat} {σ : St} {S S' : Ss} {a0 : Nat} {i0 : Nat} {r : Int32} (h : RC D σ S) (A0 : AT D S 2 i0 a0) (hp : (f_X11_turnInWave i0).1 S = some (r, S')) {Q : Int32 → St → Prop} (hq : ∀ D' τ, RC D' τ S' → DX S D D' → Q r τ) : w_X11_turnInWave a0 σ Q := by
  have L0 := zle.rf S
  have X0 := DX.rf S D
  replace hq : ∀ D9 σ9 S9 x, RC D9 σ9 S9 → zle S S9 → DX S D D9 → (mret x).1 S9 = some (r, S') → Q x σ9 := fun D9 σ9 S9 x h9 _ X9 e9 => by obtain ⟨rfl, rfl⟩ := mret_some e9; exact hq D9 σ9 h9 X9
  unfold f_X11_turnInWave at hp
  unfold w_X11_turnInWave
  replace hp := mrd_some hp
  intro x51 hx51
  rw [h.int 202 2 rfl (by decide) A0] at hx51
  obtain ⟨yx51, ex51, hp⟩ := mbo_some hp
  obtain rfl : yx51 = x51 := ex51.trans hx51.symm
  intro x52 hx52
  rw [h.int 202 2 rfl (by decide) A0] at hx52
  obtain ⟨yx52, ex52, hp⟩ := mbo_some hp
  obtain rfl : yx52 = x52 := ex52.trans hx52.symm
  refine ⟨fun c => ?_, fun c => ?_⟩
  · replace hp := mif_f hp c
    exact q_X11_turnInWave_28 hq  _ _ _ _ _ _ _ h L0 X0 A0 hp
  · replace hp := mif_t hp c
    exact q_X11_turnInWave_28 hq  _ _ _ _ _ _ _ h L0 X0 A0 hp
set_option maxRecDepth 100000 in
set_option maxHeartbeats 1000000 in
theorem q_X11_where {D : Nat → Nat → Nat} {σ : St} {S S' : Ss} {a0 : Nat} {x1 : Int32} {r : Nat × Int32} (h : RC D σ S) (A0 : AT D S 11 0 a0) (hp : (f_X11_where x1).1 S = some (r, S')) {k n : Nat} (hk : zN S' 61 ≤ zN S 61 + k) (hn : zN S' 62 ≤ zN S 62 + n) {Q : Int32 → St → Prop} (hq : ∀ D' τ, RC D' τ S' → DX S D D' → r.1 = 0 → Q r.2 τ) {Y : Nat → St → Prop} (hy : ∀ D' τ u, RC D' τ S' → DX S D D' → r.1 = u → ¬ u = 0 → Y u τ) : w_X11_where k n a0 x1 σ Q Y := by
  have L0 := zle.rf S
  have X0 := DX.rf S D
  replace hq : ∀ D9 σ9 S9 x, RC D9 σ9 S9 → zle S S9 → DX S D D9 → (mret (0, x)).1 S9 = some (r, S') → Q x σ9 := fun D9 σ9 S9 x h9 _ X9 e9 => by obtain ⟨rfl, rfl⟩ := mret_some e9; exact hq D9 σ9 h9 X9 rfl
  replace hy : ∀ D9 σ9 S9 u, RC D9 σ9 S9 → zle S S9 → DX S D D9 → (mthr u).1 S9 = some (r, S') → ¬ u = 0 → Y u σ9 := fun D9 σ9 S9 u h9 _ X9 e9 n9 => by cases e9; exact hy D9 σ9 u (h9.cost _ _) X9 rfl n9
  unfold f_X11_where at hp
  unfold w_X11_where
  obtain ⟨x51, S52, e52, L52, hp⟩ := mb_some hp
  refine q_X11_isRobot h  e52 (fun D52 s52 h52 X52 => ?_)
  have hk := bup hk (L52 61)
  have hn := bup hn (L52 62)
  have X0 := X0.tr L0 X52
  have L0 := L0.tr L52
  replace hp := mrd_some hp
  refine ⟨fun c => ?_, fun c => ?_⟩
  · replace hp := mif_f hp c
    have A0_s52 := A0.up L52 X52
    intro o54 ho54
    obtain ⟨b54, p54, B54⟩ := h52.arr 1102 8 rfl A0_s52 ho54
    refine ⟨b54, p54, ?_⟩
    obtain ⟨v_1, hp⟩ := mix_some hp
    refine ⟨by rw [h52.aln 1102 8 rfl B54]; exact v_1, ?_⟩
    intro o57 ho57
    have C57 := h52.ael 1102 8 rfl B54 v_1
    rw [← ho57] at C57
    obtain ⟨b57, p57, B57⟩ := C57.so rfl
    refine ⟨b57, p57, ?_⟩
    refine ⟨fun c => ?_, fun c => ?_⟩
    · rw [h52.int 801 8 rfl (by decide) B57] at c
      replace hp := mif_f hp c
      rw [h52.int 801 8 rfl (by decide) B57, h52.int 802 8 rfl (by decide) B57]
      exact hq _ _ _ _ h52 L0 X0 hp
    · rw [h52.int 801 8 rfl (by decide) B57] at c
      replace hp := mif_t hp c
      exact hq _ _ _ _ h52 L0 X0 hp
  · replace hp := mif_t hp c
    have hb := mthr_b hp hk hn
    exact ⟨hb.1, hb.2, hy _ _ _ _ h52 L0 X0 hp (by decide)⟩
set_option maxRecDepth 100000 in
set_option maxHeartbeats 1000000 in
theorem q_X0_write {D : Nat → Nat → Nat} {σ : St} {S S' : Ss} {a0 : Nat} {x1 : Int32} {x2 : Int32} {a3 : Nat} {i3 : Nat} {x4 : Int32} {r : Unit} (h : RC D σ S) (A0 : AT D S 0 0 a0) (A3 : AT D S 5 i3 a3) (hp : (f_X0_write x1 x2 i3 x4).1 S = some (r, S')) {k n : Nat} (hk : zN S' 61 ≤ zN S 61 + k) (hn : zN S' 62 ≤ zN S 62 + n) {Q : St → Prop} (hq : ∀ D' τ, RC D' τ S' → DX S D D' → Q τ) : w_X0_write k n a0 x1 x2 a3 x4 σ Q := by
  have L0 := zle.rf S
  have X0 := DX.rf S D
  replace hq : ∀ D9 σ9 S9, RC D9 σ9 S9 → zle S S9 → DX S D D9 → (mret ()).1 S9 = some (r, S') → Q σ9 := fun D9 σ9 S9 h9 _ X9 e9 => by obtain ⟨rfl, rfl⟩ := mret_some e9; exact hq D9 σ9 h9 X9
  unfold f_X0_write at hp
  unfold w_X0_write
  replace hp := mrd_some hp
  refine ⟨fun c => ?_, fun c => ?_⟩
  · replace hp := mif_f hp c
    intro o52 ho52
    obtain ⟨b52, p52, B52⟩ := h.cel 0 0 rfl A0 ho52
    refine ⟨b52, p52, ?_⟩
    rw [h.int 500 5 rfl (by decide) A3]
    obtain ⟨S55, z55, L55, hp⟩ := mst_some hp
    refine q_addc h (show cF 0 0 = true from rfl) B52 (fun s55 h55 => ?_)
    rw [z55] at h55
    have L0 := L0.tr L55
    have hk := bup hk (L55 61)
    have hn := bup hn (L55 62)
    replace hp := mrd_some hp
    have A0_s55 := A0.up L55 (DX.rf _ _)
    intro o56 ho56
    obtain ⟨b56, p56, B56⟩ := h55.cel 0 0 rfl A0_s55 ho56
    refine ⟨b56, p56, ?_⟩
    have A3_s55 := A3.up L55 (DX.rf _ _)
    rw [h55.int 500 5 rfl (by decide) A3_s55]
    obtain ⟨S59, z59, L59, hp⟩ := mst_some hp
    refine q_addc h55 (show cF 0 0 = true from rfl) B56 (fun s59 h59 => ?_)
    rw [z59] at h59
    have L0 := L0.tr L59
    have hk := bup hk (L59 61)
    have hn := bup hn (L59 62)
    replace hp := mrd_some hp
    have A0_s59 := A0_s55.up L59 (DX.rf _ _)
    intro o60 ho60
    obtain ⟨b60, p60, B60⟩ := h59.cel 1 0 rfl A0_s59 ho60
    have A3_s59 := A3_s55.up L59 (DX.rf _ _)
    intro o61 ho61
    obtain ⟨r61, e61, hp⟩ := mbo_some hp
    have B61 := h59.refr 501 5 3 rfl A3_s59
    rw [← ho61, ← e61] at B61
    obtain ⟨i62, e62, hp⟩ := mopt_some hp
    obtain ⟨a62, p62, B62⟩ := B61.so e62
    refine ⟨a62, p62, ?_⟩
    refine ⟨b60, p60, ?_⟩
    rw [h59.int 300 3 rfl (by decide) B62]
    obtain ⟨S65, z65, L65, hp⟩ := mst_some hp
    refine q_addc h59 (show cF 1 0 = true from rfl) B60 (fun s65 h65 => ?_)
    rw [z65] at h65
    have L0 := L0.tr L65
    have hk := bup hk (L65 61)
    have hn := bup hn (L65 62)
    replace hp := mrd_some hp
    have A0_s65 := A0_s59.up L65 (DX.rf _ _)
    intro o66 ho66
    obtain ⟨b66, p66, B66⟩ := h65.cel 1 0 rfl A0_s65 ho66
    have A3_s65 := A3_s59.up L65 (DX.rf _ _)
    intro o67 ho67
    obtain ⟨r67, e67, hp⟩ := mbo_some hp
    have B67 := h65.refr 501 5 3 rfl A3_s65
    rw [← ho67, ← e67] at B67
    obtain ⟨i68, e68, hp⟩ := mopt_some hp
    obtain ⟨a68, p68, B68⟩ := B67.so e68
    refine ⟨a68, p68, ?_⟩
    refine ⟨b66, p66, ?_⟩
    rw [h65.int 300 3 rfl (by decide) B68]
    obtain ⟨S71, z71, L71, hp⟩ := mst_some hp
    refine q_addc h65 (show cF 1 0 = true from rfl) B66 (fun s71 h71 => ?_)
    rw [z71] at h71
    have L0 := L0.tr L71
    have hk := bup hk (L71 61)
    have hn := bup hn (L71 62)
    replace hp := mrd_some hp
    have A0_s71 := A0_s65.up L71 (DX.rf _ _)
    intro o72 ho72
    obtain ⟨b72, p72, B72⟩ := h71.cel 5 0 rfl A0_s71 ho72
    refine ⟨b72, p72, ?_⟩
    have A3_s71 := A3_s65.up L71 (DX.rf _ _)
    rw [h71.int 500 5 rfl (by decide) A3_s71]
    obtain ⟨S75, z75, L75, hp⟩ := mst_some hp
    refine q_put h71 (show cF 5 0 = true from rfl) B72 (fun s75 h75 => ?_)
    rw [z75] at h75
    have L0 := L0.tr L75
    have hk := bup hk (L75 61)
    have hn := bup hn (L75 62)
    replace hp := mrd_some hp
    have A0_s75 := A0_s71.up L75 (DX.rf _ _)
    intro o76 ho76
    obtain ⟨b76, p76, B76⟩ := h75.cel 5 0 rfl A0_s75 ho76
    refine ⟨b76, p76, ?_⟩
    have A3_s75 := A3_s71.up L75 (DX.rf _ _)
    rw [h75.int 500 5 rfl (by decide) A3_s75]
    obtain ⟨S79, z79, L79, hp⟩ := mst_some hp
    refine q_put h75 (show cF 5 0 = true from rfl) B76 (fun s79 h79 => ?_)
    rw [z79] at h79
    have L0 := L0.tr L79
    have hk := bup hk (L79 61)
    have hn := bup hn (L79 62)
    replace hp := mrd_some hp
    have A0_s79 := A0_s75.up L79 (DX.rf _ _)
    have A3_s79 := A3_s75.up L79 (DX.rf _ _)
    rw [h79.int 500 5 rfl (by decide) A3_s79]
    obtain ⟨w81, S81, e81, L81, hp⟩ := mb_some hp
    have M81 := mle hp
    obtain ⟨k82, k84, f1, f2, hk⟩ := bud (L81 61) (M81 61) hk
    obtain ⟨n83, n85, g1, g2, hn⟩ := bud (L81 62) (M81 62) hn
    refine ⟨k82, n83, k84, n85, f1, g1, q_X0_note h79 A0_s79 e81 f2 g2 (fun D81 s81 h81 X81 => ?_)⟩
    have X0 := X0.tr L0 X81
    have L0 := L0.tr L81
    exact hq _ _ _ h81 L0 X0 hp
  · replace hp := mif_t hp c
    exact hq _ _ _ h L0 X0 hp
set_option maxRecDepth 100000 in
set_option maxHeartbeats 1000000 in
theorem q_X11_cut {D : Nat → Nat → Nat} {σ : St} {S S' : Ss} {a0 : Nat} {a1 : Nat} {i1 : Nat} {x2 : Int32} {r : Int32} (h : RC D σ S) (A0 : AT D S 11 0 a0) (A1 : AT D S 2 i1 a1) (hp : (f_X11_cut i1 x2).1 S = some (r, S')) {Q : Int32 → St → Prop} (hq : ∀ D' τ, RC D' τ S' → DX S D D' → Q r τ) : w_X11_cut a0 a1 x2 σ Q := by
  have L0 := zle.rf S
  have X0 := DX.rf S D
  replace hq : ∀ D9 σ9 S9 x, RC D9 σ9 S9 → zle S S9 → DX S D D9 → (mret x).1 S9 = some (r, S') → Q x σ9 := fun D9 σ9 S9 x h9 _ X9 e9 => by obtain ⟨rfl, rfl⟩ := mret_some e9; exact hq D9 σ9 h9 X9
  unfold f_X11_cut at hp
  unfold w_X11_cut
  replace hp := mrd_some hp
  intro x51 hx51
  rw [h.int 204 2 rfl (by decide) A1] at hx51
  obtain ⟨yx51, ex51, hp⟩ := mbo_some hp
  obtain rfl : yx51 = x51 := ex51.trans hx51.symm
  rw [h.int 204 2 rfl (by decide) A1]
  obtain ⟨w53, S53, e53, L53, hp⟩ := mb_some hp
  refine q_X11_release h A0 A1 e53 (fun D53 s53 h53 X53 => ?_)
  have X0 := X0.tr L0 X53
  have L0 := L0.tr L53
  replace hp := mrd_some hp
  have A1_s53 := A1.up L53 X53
  intro o54 ho54
  obtain ⟨r54, e54, hp⟩ := mbo_some hp
  have B54 := h53.refr 205 2 10 rfl A1_s53
  rw [← ho54, ← e54] at B54
  refine ⟨fun c => ?_, fun a56 c => ?_⟩
  · replace hp := mcase_n hp (B54.no c)
    exact hq _ _ _ _ h53 L0 X0 hp
  · obtain ⟨i56, e56, B56⟩ := B54.sa c
    replace hp := mcase_s hp e56
    intro o57 ho57
    obtain ⟨r57, e57, hp⟩ := mbo_some hp
    have B57 := h53.refr 205 2 10 rfl A1_s53
    rw [← ho57, ← e57] at B57
    obtain ⟨i58, e58, hp⟩ := mopt_some hp
    obtain ⟨a58, p58, B58⟩ := B57.so e58
    refine ⟨a58, p58, ?_⟩
    intro s59 es59
    obtain ⟨S59, z59, L59, hp⟩ := mst_some hp
    have h59 := h53.wI (rfl : 1004 / 100 = 10) (by decide) (by decide) B58 es59
    rw [z59] at h59
    have L0 := L0.tr L59
    replace hp := mrd_some hp
    refine ⟨fun c => ?_, fun c => ?_⟩
    · replace hp := mif_f hp c
      exact hq _ _ _ _ h59 L0 X0 hp
    · replace hp := mif_t hp c
      have A1_s59 := A1_s53.up L59 (DX.rf _ _)
      intro o61 ho61
      obtain ⟨r61, e61, hp⟩ := mbo_some hp
      have B61 := h59.refr 205 2 10 rfl A1_s59
      rw [← ho61, ← e61] at B61
      obtain ⟨i62, e62, hp⟩ := mopt_some hp
      obtain ⟨a62, p62, B62⟩ := B61.so e62
      refine ⟨a62, p62, ?_⟩
      intro s63 es63
      obtain ⟨S63, z63, L63, hp⟩ := mst_some hp
      have h63 := h59.wI (rfl : 1005 / 100 = 10) (by decide) (by decide) B62 es63
      rw [z63] at h63
      have L0 := L0.tr L63
      exact hq _ _ _ _ h63 L0 X0 hp
set_option maxRecDepth 100000 in
set_option maxHeartbeats 1000000 in
theorem q_X11_fillBoxes_42 {D0 : Nat → Nat → Nat} {S0 S' : Ss} {r : Unit} {Q : St → Prop} (hq : ∀ D σ S, RC D σ S → zle S0 S → DX S0 D0 D → (mret ()).1 S = some (r, S') → Q σ) {K6 : Nat → Nat → Int32 → Int32 → Int32 → St → Prop} {LK6 : Nat → Int32 → Int32 → Int32 → MM (Unit)} (hK6 : ∀ (D : Nat → Nat → Nat) (σ : St) (S : Ss) (a0 : Nat) (a1 : Nat) (i1 : Nat) (x3 : Int32) (x4 : Int32) (x5 : Int32), RC D σ S → zle S0 S → DX S0 D0 D → AT D S 11 0 a0 → AT D S 3 i1 a1 → (LK6 i1 x3 x4 x5).1 S = some (r, S') → K6 a0 a1 x3 x4 x5 σ) : ∀ (f : Nat) (D : Nat → Nat → Nat) (σ : St) (S : Ss) (a0 : Nat) (a1 : Nat) (i1 : Nat) (x3 : Int32) (x4 : Int32) (x5 : Int32), RC D σ S → zle S0 S → DX S0 D0 D → AT D S 11 0 a0 → AT D S 3 i1 a1 → (f_X11_fillBoxes_42 LK6 f i1 x3 x4 x5).1 S = some (r, S') → w_X11_fillBoxes_42 Q K6 f a0 a1 x3 x4 x5 σ := by
  intro f
  induction f with
  | zero => intro D σ S a0 a1 i1 x3 x4 x5 h L0 X0 A0 A1 hp; cases hp
  | succ f ih =>
    intro D σ S a0 a1 i1 x3 x4 x5 h L0 X0 A0 A1 hp
    unfold f_X11_fillBoxes_42 at hp
    unfold w_X11_fillBoxes_42
    refine ⟨fun c => ?_, fun c => ?_⟩
    · replace hp := mif_t hp c
      exact hK6 _ _ _ _ _ _ _ _ _ h L0 X0 A0 A1 hp
    · replace hp := mif_f hp c
      obtain ⟨x55, S56, e56, L56, hp⟩ := mb_some hp
      refine q_X11_fitsIntoBox h A0 A1 e56 (fun D56 s56 h56 X56 => ?_)
      have X0 := X0.tr L0 X56
      have L0 := L0.tr L56
      refine ⟨fun c => ?_, fun c => ?_⟩
      · replace hp := mif_t hp c
        have A0_s56 := A0.up L56 X56
        have A1_s56 := A1.up L56 X56
        exact hK6 _ _ _ _ _ _ _ _ _ h56 L0 X0 A0_s56 A1_s56 hp
      · replace hp := mif_f hp c
        have A0_s56 := A0.up L56 X56
        have A1_s56 := A1.up L56 X56
        obtain ⟨w59, S59, e59, L59, hp⟩ := mb_some hp
        refine q_X11_putIntoBox h56 A0_s56 A1_s56 e59 (fun D59 s59 h59 X59 => ?_)
        have X0 := X0.tr L0 X59
        have L0 := L0.tr L59
        have A0_s59 := A0_s56.up L59 X59
        have A1_s59 := A1_s56.up L59 X59
        exact ih _ _ _ _ _ _ _ _ _ h59 L0 X0 A0_s59 A1_s59 hp
set_option maxRecDepth 100000 in
set_option maxHeartbeats 1000000 in
theorem q_X11_fillBoxes_6 {D0 : Nat → Nat → Nat} {S0 S' : Ss} {r : Unit} {Q : St → Prop} (hq : ∀ D σ S, RC D σ S → zle S0 S → DX S0 D0 D → (mret ()).1 S = some (r, S') → Q σ) : ∀ (f : Nat) (D : Nat → Nat → Nat) (σ : St) (S : Ss) (a0 : Nat) (a1 : Nat) (i1 : Nat) (x3 : Int32) (x4 : Int32) (x5 : Int32), RC D σ S → zle S0 S → DX S0 D0 D → AT D S 11 0 a0 → AT D S 3 i1 a1 → (f_X11_fillBoxes_6 f i1 x3 x4 x5).1 S = some (r, S') → w_X11_fillBoxes_6 Q  f a0 a1 x3 x4 x5 σ := by
  intro f
  induction f with
  | zero => intro D σ S a0 a1 i1 x3 x4 x5 h L0 X0 A0 A1 hp; cases hp
  | succ f ih =>
    intro D σ S a0 a1 i1 x3 x4 x5 h L0 X0 A0 A1 hp
    unfold f_X11_fillBoxes_6 at hp
    unfold w_X11_fillBoxes_6
    replace hp := mrd_some hp
    refine ⟨fun c => ?_, fun c => ?_⟩
    · replace hp := mif_t hp c
      exact hq _ _ _ h L0 X0 hp
    · replace hp := mif_f hp c
      refine ⟨fun c => ?_, fun c => ?_⟩
      · replace hp := mif_t hp c
        exact hq _ _ _ h L0 X0 hp
      · replace hp := mif_f hp c
        refine ⟨fun c => ?_, fun c => ?_⟩
        · rw [h.int 1114 11 rfl (by decide) A0] at c
          replace hp := mif_f hp c
          refine ⟨FU, ?_⟩
          exact q_X11_fillBoxes_42 hq ih FU _ _ _ _ _ _ _ _ _ h L0 X0 A0 A1 hp
        · rw [h.int 1114 11 rfl (by decide) A0] at c
          replace hp := mif_t hp c
          obtain ⟨w62, S62, e62, L62, hp⟩ := mb_some hp
          refine q_X11_openBox h A0 e62 (fun D62 s62 h62 X62 => ?_)
          have X0 := X0.tr L0 X62
          have L0 := L0.tr L62
          have A0_s62 := A0.up L62 X62
          have A1_s62 := A1.up L62 X62
          obtain ⟨w64, S64, e64, L64, hp⟩ := mb_some hp
          refine q_X11_putIntoBox h62 A0_s62 A1_s62 e64 (fun D64 s64 h64 X64 => ?_)
          have X0 := X0.tr L0 X64
          have L0 := L0.tr L64
          refine ⟨FU, ?_⟩
          have A0_s64 := A0_s62.up L64 X64
          have A1_s64 := A1_s62.up L64 X64
          exact q_X11_fillBoxes_42 hq ih FU _ _ _ _ _ _ _ _ _ h64 L0 X0 A0_s64 A1_s64 hp
set_option maxRecDepth 100000 in
set_option maxHeartbeats 1000000 in
theorem q_X11_fillBoxes {D : Nat → Nat → Nat} {σ : St} {S S' : Ss} {a0 : Nat} {a1 : Nat} {i1 : Nat} {x2 : Int32} {x3 : Int32} {r : Unit} (h : RC D σ S) (A0 : AT D S 11 0 a0) (A1 : AT D S 3 i1 a1) (hp : (f_X11_fillBoxes i1 x2 x3).1 S = some (r, S')) {Q : St → Prop} (hq : ∀ D' τ, RC D' τ S' → DX S D D' → Q τ) : w_X11_fillBoxes a0 a1 x2 x3 σ Q := by
  have L0 := zle.rf S
  have X0 := DX.rf S D
  replace hq : ∀ D9 σ9 S9, RC D9 σ9 S9 → zle S S9 → DX S D D9 → (mret ()).1 S9 = some (r, S') → Q σ9 := fun D9 σ9 S9 h9 _ X9 e9 => by obtain ⟨rfl, rfl⟩ := mret_some e9; exact hq D9 σ9 h9 X9
  unfold f_X11_fillBoxes at hp
  unfold w_X11_fillBoxes
  refine ⟨FU, ?_⟩
  exact q_X11_fillBoxes_6 hq FU _ _ _ _ _ _ _ _ _ h L0 X0 A0 A1 hp
set_option maxRecDepth 100000 in
set_option maxHeartbeats 1000000 in
theorem q_X11_find {D : Nat → Nat → Nat} {σ : St} {S S' : Ss} {a0 : Nat} {x1 : Int32} {x2 : Int32} {x3 : Int32} {r : Nat × Int32} (h : RC D σ S) (A0 : AT D S 11 0 a0) (hp : (f_X11_find x1 x2 x3).1 S = some (r, S')) {k n : Nat} (hk : zN S' 61 ≤ zN S 61 + k) (hn : zN S' 62 ≤ zN S 62 + n) {Q : Int32 → St → Prop} (hq : ∀ D' τ, RC D' τ S' → DX S D D' → r.1 = 0 → Q r.2 τ) {Y : Nat → St → Prop} (hy : ∀ D' τ u, RC D' τ S' → DX S D D' → r.1 = u → ¬ u = 0 → Y u τ) : w_X11_find k n a0 x1 x2 x3 σ Q Y := by
  have L0 := zle.rf S
  have X0 := DX.rf S D
  replace hq : ∀ D9 σ9 S9 x, RC D9 σ9 S9 → zle S S9 → DX S D D9 → (mret (0, x)).1 S9 = some (r, S') → Q x σ9 := fun D9 σ9 S9 x h9 _ X9 e9 => by obtain ⟨rfl, rfl⟩ := mret_some e9; exact hq D9 σ9 h9 X9 rfl
  replace hy : ∀ D9 σ9 S9 u, RC D9 σ9 S9 → zle S S9 → DX S D D9 → (mthr u).1 S9 = some (r, S') → ¬ u = 0 → Y u σ9 := fun D9 σ9 S9 u h9 _ X9 e9 n9 => by cases e9; exact hy D9 σ9 u (h9.cost _ _) X9 rfl n9
  unfold f_X11_find at hp
  unfold w_X11_find
  obtain ⟨x51, S52, e52, L52, hp⟩ := mb_some hp
  refine q_X11_isSlot h  e52 (fun D52 s52 h52 X52 => ?_)
  have hk := bup hk (L52 61)
  have hn := bup hn (L52 62)
  have X0 := X0.tr L0 X52
  have L0 := L0.tr L52
  refine ⟨fun c => ?_, fun c => ?_⟩
  · replace hp := mif_t hp c
    have hb := mthr_b hp hk hn
    exact ⟨hb.1, hb.2, hy _ _ _ _ h52 L0 X0 hp (by decide)⟩
  · replace hp := mif_f hp c
    have A0_s52 := A0.up L52 X52
    obtain ⟨x54, S55, e55, L55, hp⟩ := mb_some hp
    refine q_X11_isLot h52 A0_s52 e55 (fun D55 s55 h55 X55 => ?_)
    have hk := bup hk (L55 61)
    have hn := bup hn (L55 62)
    have X0 := X0.tr L0 X55
    have L0 := L0.tr L55
    refine ⟨fun c => ?_, fun c => ?_⟩
    · replace hp := mif_f hp c
      obtain ⟨x57, S58, e58, L58, hp⟩ := mb_some hp
      refine q_X11_isWithin h55  e58 (fun D58 s58 h58 X58 => ?_)
      have hk := bup hk (L58 61)
      have hn := bup hn (L58 62)
      have X0 := X0.tr L0 X58
      have L0 := L0.tr L58
      refine ⟨fun c => ?_, fun c => ?_⟩
      · replace hp := mif_f hp c
        have A0_s55 := A0_s52.up L55 X55
        have A0_s58 := A0_s55.up L58 X58
        intro o60 ho60
        obtain ⟨b60, p60, B60⟩ := h58.bok A0_s58 ho60
        refine ⟨b60, p60, ?_⟩
        intro o62 ho62
        obtain ⟨b62, p62, B62⟩ := h58.cel 2 0 rfl B60 ho62
        refine ⟨b62, p62, ?_⟩
        obtain ⟨S65, z65, L65, hp⟩ := mst_some hp
        refine q_addc h58 (show cF 2 0 = true from rfl) B62 (fun s65 h65 => ?_)
        rw [z65] at h65
        have L0 := L0.tr L65
        have hk := bup hk (L65 61)
        have hn := bup hn (L65 62)
        replace hp := mrd_some hp
        have A0_s65 := A0_s58.up L65 (DX.rf _ _)
        intro o66 ho66
        obtain ⟨b66, p66, B66⟩ := h65.bok A0_s65 ho66
        refine ⟨b66, p66, ?_⟩
        intro o68 ho68
        obtain ⟨b68, p68, B68⟩ := h65.cel 2 0 rfl B66 ho68
        refine ⟨b68, p68, ?_⟩
        obtain ⟨x70, ex70, hp⟩ := mbo_some hp
        refine q_at h65 (show cF 2 0 = true from rfl) B68 ex70 ?_
        exact hq _ _ _ _ h65 L0 X0 hp
      · replace hp := mif_t hp c
        have hb := mthr_b hp hk hn
        exact ⟨hb.1, hb.2, hy _ _ _ _ h58 L0 X0 hp (by decide)⟩
    · replace hp := mif_t hp c
      have hb := mthr_b hp hk hn
      exact ⟨hb.1, hb.2, hy _ _ _ _ h55 L0 X0 hp (by decide)⟩
set_option maxRecDepth 100000 in
set_option maxHeartbeats 1000000 in
theorem q_X11_free {D : Nat → Nat → Nat} {σ : St} {S S' : Ss} {a0 : Nat} {x1 : Int32} {x2 : Int32} {r : Nat × Int32} (h : RC D σ S) (A0 : AT D S 11 0 a0) (hp : (f_X11_free x1 x2).1 S = some (r, S')) {k n : Nat} (hk : zN S' 61 ≤ zN S 61 + k) (hn : zN S' 62 ≤ zN S 62 + n) {Q : Int32 → St → Prop} (hq : ∀ D' τ, RC D' τ S' → DX S D D' → r.1 = 0 → Q r.2 τ) {Y : Nat → St → Prop} (hy : ∀ D' τ u, RC D' τ S' → DX S D D' → r.1 = u → ¬ u = 0 → Y u τ) : w_X11_free k n a0 x1 x2 σ Q Y := by
  have L0 := zle.rf S
  have X0 := DX.rf S D
  replace hq : ∀ D9 σ9 S9 x, RC D9 σ9 S9 → zle S S9 → DX S D D9 → (mret (0, x)).1 S9 = some (r, S') → Q x σ9 := fun D9 σ9 S9 x h9 _ X9 e9 => by obtain ⟨rfl, rfl⟩ := mret_some e9; exact hq D9 σ9 h9 X9 rfl
  replace hy : ∀ D9 σ9 S9 u, RC D9 σ9 S9 → zle S S9 → DX S D D9 → (mthr u).1 S9 = some (r, S') → ¬ u = 0 → Y u σ9 := fun D9 σ9 S9 u h9 _ X9 e9 n9 => by cases e9; exact hy D9 σ9 u (h9.cost _ _) X9 rfl n9
  unfold f_X11_free at hp
  unfold w_X11_free
  obtain ⟨x51, S52, e52, L52, hp⟩ := mb_some hp
  refine q_X11_isWithin h  e52 (fun D52 s52 h52 X52 => ?_)
  have hk := bup hk (L52 61)
  have hn := bup hn (L52 62)
  have X0 := X0.tr L0 X52
  have L0 := L0.tr L52
  refine ⟨fun c => ?_, fun c => ?_⟩
  · replace hp := mif_t hp c
    have hb := mthr_b hp hk hn
    exact ⟨hb.1, hb.2, hy _ _ _ _ h52 L0 X0 hp (by decide)⟩
  · replace hp := mif_f hp c
    have A0_s52 := A0.up L52 X52
    obtain ⟨x54, S55, e55, L55, hp⟩ := mb_some hp
    refine q_X11_isLot h52 A0_s52 e55 (fun D55 s55 h55 X55 => ?_)
    have hk := bup hk (L55 61)
    have hn := bup hn (L55 62)
    have X0 := X0.tr L0 X55
    have L0 := L0.tr L55
    refine ⟨fun c => ?_, fun c => ?_⟩
    · replace hp := mif_f hp c
      have A0_s55 := A0_s52.up L55 X55
      intro o57 ho57
      obtain ⟨b57, p57, B57⟩ := h55.bok A0_s55 ho57
      refine ⟨b57, p57, ?_⟩
      obtain ⟨x59, S60, e60, L60, hp⟩ := mb_some hp
      refine q_X0_freePieces h55 B57 e60 (fun D60 s60 h60 X60 => ?_)
      have hk := bup hk (L60 61)
      have hn := bup hn (L60 62)
      have X0 := X0.tr L0 X60
      have L0 := L0.tr L60
      exact hq _ _ _ _ h60 L0 X0 hp
    · replace hp := mif_t hp c
      have hb := mthr_b hp hk hn
      exact ⟨hb.1, hb.2, hy _ _ _ _ h55 L0 X0 hp (by decide)⟩
set_option maxRecDepth 100000 in
set_option maxHeartbeats 1000000 in
theorem q_X11_isBarredIn_12 {D0 : Nat → Nat → Nat} {S0 S' : Ss} {r : Int32} {Q : Int32 → St → Prop} (hq : ∀ D σ S x, RC D σ S → zle S0 S → DX S0 D0 D → (mret x).1 S = some (r, S') → Q x σ) : ∀ (f : Nat) (D : Nat → Nat → Nat) (σ : St) (S : Ss) (a0 : Nat) (x1 : Int32) (a2 : Nat) (i2 : Nat) (o3 : Option Nat) (x4 : Int32) (x5 : Int32), RC D σ S → zle S0 S → DX S0 D0 D → AT D S 11 0 a0 → AT D S 3 i2 a2 → (∃ b, o3 = some b ∧ AT D S 20000 1101 b) → (f_X11_isBarredIn_12 f x1 i2 x4 x5).1 S = some (r, S') → w_X11_isBarredIn_12 Q  f a0 x1 a2 o3 x4 x5 σ := by
  intro f
  induction f with
  | zero => intro D σ S a0 x1 a2 i2 o3 x4 x5 h L0 X0 A0 A2 A3 hp; cases hp
  | succ f ih =>
    intro D σ S a0 x1 a2 i2 o3 x4 x5 h L0 X0 A0 A2 A3 hp
    unfold f_X11_isBarredIn_12 at hp
    unfold w_X11_isBarredIn_12
    obtain ⟨b3, p3, A3⟩ := A3
    replace hp := mrd_some hp
    refine ⟨fun c => ?_, fun c => ?_⟩
    · replace hp := mif_t hp c
      exact hq _ _ _ _ h L0 X0 hp
    · replace hp := mif_f hp c
      refine ⟨b3, p3, ?_⟩
      obtain ⟨v_1, hp⟩ := mix_some hp
      refine ⟨by rw [h.aln 1101 3 rfl A3]; exact v_1, ?_⟩
      intro o57 ho57
      have C57 := h.ael 1101 3 rfl A3 v_1
      rw [← ho57] at C57
      obtain ⟨b57, p57, B57⟩ := C57.so rfl
      refine ⟨fun c => ?_, fun c => ?_⟩
      · replace hp := mif_t hp ((h.oo (by decide) (ato_k p57 B57) (A2.sm)).mp c)
        exact ih _ _ _ _ _ _ _ _ _ _ h L0 X0 A0 A2 ⟨_, rfl, A3⟩ hp
      · replace hp := mif_f hp (fun q => c ((h.oo (by decide) (ato_k p57 B57) (A2.sm)).mpr q))
        refine ⟨b57, p57, ?_⟩
        rw [h.int 1115 11 rfl (by decide) A0, h.int 304 3 rfl (by decide) B57, h.int 304 3 rfl (by decide) A2]
        obtain ⟨x60, S61, e61, L61, hp⟩ := mb_some hp
        refine q_X11_isBarred h  e61 (fun D61 s61 h61 X61 => ?_)
        have X0 := X0.tr L0 X61
        have L0 := L0.tr L61
        replace hp := mrd_some hp
        refine ⟨fun c => ?_, fun c => ?_⟩
        · replace hp := mif_t hp c
          have A0_s61 := A0.up L61 X61
          have A2_s61 := A2.up L61 X61
          have A3_s61 := A3.up L61 X61
          exact ih _ _ _ _ _ _ _ _ _ _ h61 L0 X0 A0_s61 A2_s61 ⟨_, rfl, A3_s61⟩ hp
        · replace hp := mif_f hp c
          have A0_s61 := A0.up L61 X61
          intro o63 ho63
          obtain ⟨b63, p63, B63⟩ := h61.bok A0_s61 ho63
          refine ⟨b63, p63, ?_⟩
          have B57_s61 := B57.up L61 X61
          rw [h61.int 300 3 rfl (by decide) B57_s61]
          obtain ⟨x65, S66, e66, L66, hp⟩ := mb_some hp
          refine q_X0_hasOrAwaits h61 B63 e66 (fun D66 s66 h66 X66 => ?_)
          have X0 := X0.tr L0 X66
          have L0 := L0.tr L66
          refine ⟨fun c => ?_, fun c => ?_⟩
          · replace hp := mif_t hp c
            have A0_s66 := A0_s61.up L66 X66
            have A2_s61 := A2.up L61 X61
            have A2_s66 := A2_s61.up L66 X66
            have A3_s61 := A3.up L61 X61
            have A3_s66 := A3_s61.up L66 X66
            exact ih _ _ _ _ _ _ _ _ _ _ h66 L0 X0 A0_s66 A2_s66 ⟨_, rfl, A3_s66⟩ hp
          · replace hp := mif_f hp c
            exact hq _ _ _ _ h66 L0 X0 hp
set_option maxRecDepth 100000 in
set_option maxHeartbeats 1000000 in
theorem q_X11_isBarredIn {D : Nat → Nat → Nat} {σ : St} {S S' : Ss} {a0 : Nat} {x1 : Int32} {a2 : Nat} {i2 : Nat} {r : Int32} (h : RC D σ S) (A0 : AT D S 11 0 a0) (A2 : AT D S 3 i2 a2) (hp : (f_X11_isBarredIn x1 i2).1 S = some (r, S')) {Q : Int32 → St → Prop} (hq : ∀ D' τ, RC D' τ S' → DX S D D' → Q r τ) : w_X11_isBarredIn a0 x1 a2 σ Q := by
  have L0 := zle.rf S
  have X0 := DX.rf S D
  replace hq : ∀ D9 σ9 S9 x, RC D9 σ9 S9 → zle S S9 → DX S D D9 → (mret x).1 S9 = some (r, S') → Q x σ9 := fun D9 σ9 S9 x h9 _ X9 e9 => by obtain ⟨rfl, rfl⟩ := mret_some e9; exact hq D9 σ9 h9 X9
  unfold f_X11_isBarredIn at hp
  unfold w_X11_isBarredIn
  intro o51 ho51
  obtain ⟨b51, p51, B51⟩ := h.arr 1101 3 rfl A0 ho51
  refine ⟨b51, p51, ?_⟩
  intro x53 hx53
  rw [h.aln 1101 3 rfl B51] at hx53
  obtain ⟨yx53, ex53, hp⟩ := mbo_some hp
  obtain rfl : yx53 = x53 := ex53.trans hx53.symm
  refine ⟨FU, ?_⟩
  exact q_X11_isBarredIn_12 hq FU _ _ _ _ _ _ _ _ _ _ h L0 X0 A0 A2 ⟨_, rfl, B51⟩ hp
set_option maxRecDepth 100000 in
set_option maxHeartbeats 1000000 in
theorem q_X11_isUsed_2 {D0 : Nat → Nat → Nat} {S0 S' : Ss} {r : Int32} {Q : Int32 → St → Prop} (hq : ∀ D σ S x, RC D σ S → zle S0 S → DX S0 D0 D → (mret x).1 S = some (r, S') → Q x σ) : ∀ (f : Nat) (D : Nat → Nat → Nat) (σ : St) (S : Ss) (a0 : Nat) (x1 : Int32) (x2 : Int32), RC D σ S → zle S0 S → DX S0 D0 D → AT D S 11 0 a0 → (f_X11_isUsed_2 f x1 x2).1 S = some (r, S') → w_X11_isUsed_2 Q  f a0 x1 x2 σ := by
  intro f
  induction f with
  | zero => intro D σ S a0 x1 x2 h L0 X0 A0 hp; cases hp
  | succ f ih =>
    intro D σ S a0 x1 x2 h L0 X0 A0 hp
    unfold f_X11_isUsed_2 at hp
    unfold w_X11_isUsed_2
    refine ⟨fun c => ?_, fun c => ?_⟩
    · replace hp := mif_t hp c
      exact hq _ _ _ _ h L0 X0 hp
    · replace hp := mif_f hp c
      intro o52 ho52
      obtain ⟨b52, p52, B52⟩ := h.bok A0 ho52
      refine ⟨b52, p52, ?_⟩
      obtain ⟨x54, S55, e55, L55, hp⟩ := mb_some hp
      refine q_X0_hasOrAwaits h B52 e55 (fun D55 s55 h55 X55 => ?_)
      have X0 := X0.tr L0 X55
      have L0 := L0.tr L55
      refine ⟨fun c => ?_, fun c => ?_⟩
      · replace hp := mif_t hp c
        have A0_s55 := A0.up L55 X55
        exact ih _ _ _ _ _ _ h55 L0 X0 A0_s55 hp
      · replace hp := mif_f hp c
        exact hq _ _ _ _ h55 L0 X0 hp
set_option maxRecDepth 100000 in
set_option maxHeartbeats 1000000 in
theorem q_X11_isUsed {D : Nat → Nat → Nat} {σ : St} {S S' : Ss} {a0 : Nat} {x1 : Int32} {r : Int32} (h : RC D σ S) (A0 : AT D S 11 0 a0) (hp : (f_X11_isUsed x1).1 S = some (r, S')) {Q : Int32 → St → Prop} (hq : ∀ D' τ, RC D' τ S' → DX S D D' → Q r τ) : w_X11_isUsed a0 x1 σ Q := by
  have L0 := zle.rf S
  have X0 := DX.rf S D
  replace hq : ∀ D9 σ9 S9 x, RC D9 σ9 S9 → zle S S9 → DX S D D9 → (mret x).1 S9 = some (r, S') → Q x σ9 := fun D9 σ9 S9 x h9 _ X9 e9 => by obtain ⟨rfl, rfl⟩ := mret_some e9; exact hq D9 σ9 h9 X9
  unfold f_X11_isUsed at hp
  unfold w_X11_isUsed
  refine ⟨FU, ?_⟩
  exact q_X11_isUsed_2 hq FU _ _ _ _ _ _ h L0 X0 A0 hp
set_option maxRecDepth 100000 in
set_option maxHeartbeats 1000000 in
theorem q_X11_lose {D : Nat → Nat → Nat} {σ : St} {S S' : Ss} {a0 : Nat} {x1 : Int32} {x2 : Int32} {x3 : Int32} {r : Nat × Int32} (h : RC D σ S) (A0 : AT D S 11 0 a0) (hp : (f_X11_lose x1 x2 x3).1 S = some (r, S')) {k n : Nat} (hk : zN S' 61 ≤ zN S 61 + k) (hn : zN S' 62 ≤ zN S 62 + n) {Q : Int32 → St → Prop} (hq : ∀ D' τ, RC D' τ S' → DX S D D' → r.1 = 0 → Q r.2 τ) {Y : Nat → St → Prop} (hy : ∀ D' τ u, RC D' τ S' → DX S D D' → r.1 = u → ¬ u = 0 → Y u τ) : w_X11_lose k n a0 x1 x2 x3 σ Q Y := by
  have L0 := zle.rf S
  have X0 := DX.rf S D
  replace hq : ∀ D9 σ9 S9 x, RC D9 σ9 S9 → zle S S9 → DX S D D9 → (mret (0, x)).1 S9 = some (r, S') → Q x σ9 := fun D9 σ9 S9 x h9 _ X9 e9 => by obtain ⟨rfl, rfl⟩ := mret_some e9; exact hq D9 σ9 h9 X9 rfl
  replace hy : ∀ D9 σ9 S9 u, RC D9 σ9 S9 → zle S S9 → DX S D D9 → (mthr u).1 S9 = some (r, S') → ¬ u = 0 → Y u σ9 := fun D9 σ9 S9 u h9 _ X9 e9 n9 => by cases e9; exact hy D9 σ9 u (h9.cost _ _) X9 rfl n9
  unfold f_X11_lose at hp
  unfold w_X11_lose
  obtain ⟨x51, S52, e52, L52, hp⟩ := mb_some hp
  refine q_X11_isSlot h  e52 (fun D52 s52 h52 X52 => ?_)
  have hk := bup hk (L52 61)
  have hn := bup hn (L52 62)
  have X0 := X0.tr L0 X52
  have L0 := L0.tr L52
  refine ⟨fun c => ?_, fun c => ?_⟩
  · replace hp := mif_t hp c
    have hb := mthr_b hp hk hn
    exact ⟨hb.1, hb.2, hy _ _ _ _ h52 L0 X0 hp (by decide)⟩
  · replace hp := mif_f hp c
    have A0_s52 := A0.up L52 X52
    obtain ⟨x54, S55, e55, L55, hp⟩ := mb_some hp
    refine q_X11_isLot h52 A0_s52 e55 (fun D55 s55 h55 X55 => ?_)
    have hk := bup hk (L55 61)
    have hn := bup hn (L55 62)
    have X0 := X0.tr L0 X55
    have L0 := L0.tr L55
    refine ⟨fun c => ?_, fun c => ?_⟩
    · replace hp := mif_f hp c
      obtain ⟨x57, S58, e58, L58, hp⟩ := mb_some hp
      refine q_X11_isWithin h55  e58 (fun D58 s58 h58 X58 => ?_)
      have hk := bup hk (L58 61)
      have hn := bup hn (L58 62)
      have X0 := X0.tr L0 X58
      have L0 := L0.tr L58
      replace hp := mrd_some hp
      refine ⟨fun c => ?_, fun c => ?_⟩
      · replace hp := mif_f hp c
        have A0_s55 := A0_s52.up L55 X55
        have A0_s58 := A0_s55.up L58 X58
        intro o60 ho60
        obtain ⟨b60, p60, B60⟩ := h58.bok A0_s58 ho60
        refine ⟨b60, p60, ?_⟩
        intro o62 ho62
        obtain ⟨b62, p62, B62⟩ := h58.cel 2 0 rfl B60 ho62
        intro o63 ho63
        obtain ⟨b63, p63, B63⟩ := h58.bok A0_s58 ho63
        refine ⟨b63, p63, ?_⟩
        intro o65 ho65
        obtain ⟨b65, p65, B65⟩ := h58.cel 2 0 rfl B63 ho65
        refine ⟨b65, p65, ?_⟩
        obtain ⟨x67, ex67, hp⟩ := mbo_some hp
        refine q_at h58 (show cF 2 0 = true from rfl) B65 ex67 ?_
        refine ⟨b62, p62, ?_⟩
        obtain ⟨S71, z71, L71, hp⟩ := mst_some hp
        refine q_addc h58 (show cF 2 0 = true from rfl) B62 (fun s71 h71 => ?_)
        rw [z71] at h71
        have L0 := L0.tr L71
        have hk := bup hk (L71 61)
        have hn := bup hn (L71 62)
        replace hp := mrd_some hp
        have A0_s71 := A0_s58.up L71 (DX.rf _ _)
        intro o72 ho72
        obtain ⟨b72, p72, B72⟩ := h71.bok A0_s71 ho72
        refine ⟨b72, p72, ?_⟩
        intro o74 ho74
        obtain ⟨b74, p74, B74⟩ := h71.cel 2 0 rfl B72 ho74
        refine ⟨b74, p74, ?_⟩
        obtain ⟨x76, ex76, hp⟩ := mbo_some hp
        refine q_at h71 (show cF 2 0 = true from rfl) B74 ex76 ?_
        exact hq _ _ _ _ h71 L0 X0 hp
      · replace hp := mif_t hp c
        have hb := mthr_b hp hk hn
        exact ⟨hb.1, hb.2, hy _ _ _ _ h58 L0 X0 hp (by decide)⟩
    · replace hp := mif_t hp c
      have hb := mthr_b hp hk hn
      exact ⟨hb.1, hb.2, hy _ _ _ _ h55 L0 X0 hp (by decide)⟩
set_option maxRecDepth 100000 in
set_option maxHeartbeats 1000000 in
theorem q_X11_received {D : Nat → Nat → Nat} {σ : St} {S S' : Ss} {a0 : Nat} {x1 : Int32} {x2 : Int32} {r : Nat × Int32} (h : RC D σ S) (A0 : AT D S 11 0 a0) (hp : (f_X11_received x1 x2).1 S = some (r, S')) {k n : Nat} (hk : zN S' 61 ≤ zN S 61 + k) (hn : zN S' 62 ≤ zN S 62 + n) {Q : Int32 → St → Prop} (hq : ∀ D' τ, RC D' τ S' → DX S D D' → r.1 = 0 → Q r.2 τ) {Y : Nat → St → Prop} (hy : ∀ D' τ u, RC D' τ S' → DX S D D' → r.1 = u → ¬ u = 0 → Y u τ) : w_X11_received k n a0 x1 x2 σ Q Y := by
  have L0 := zle.rf S
  have X0 := DX.rf S D
  replace hq : ∀ D9 σ9 S9 x, RC D9 σ9 S9 → zle S S9 → DX S D D9 → (mret (0, x)).1 S9 = some (r, S') → Q x σ9 := fun D9 σ9 S9 x h9 _ X9 e9 => by obtain ⟨rfl, rfl⟩ := mret_some e9; exact hq D9 σ9 h9 X9 rfl
  replace hy : ∀ D9 σ9 S9 u, RC D9 σ9 S9 → zle S S9 → DX S D D9 → (mthr u).1 S9 = some (r, S') → ¬ u = 0 → Y u σ9 := fun D9 σ9 S9 u h9 _ X9 e9 n9 => by cases e9; exact hy D9 σ9 u (h9.cost _ _) X9 rfl n9
  unfold f_X11_received at hp
  unfold w_X11_received
  obtain ⟨x51, S52, e52, L52, hp⟩ := mb_some hp
  refine q_X11_isNotice h A0 e52 (fun D52 s52 h52 X52 => ?_)
  have hk := bup hk (L52 61)
  have hn := bup hn (L52 62)
  have X0 := X0.tr L0 X52
  have L0 := L0.tr L52
  refine ⟨fun c => ?_, fun c => ?_⟩
  · replace hp := mif_t hp c
    have hb := mthr_b hp hk hn
    exact ⟨hb.1, hb.2, hy _ _ _ _ h52 L0 X0 hp (by decide)⟩
  · replace hp := mif_f hp c
    have A0_s52 := A0.up L52 X52
    obtain ⟨x54, S55, e55, L55, hp⟩ := mb_some hp
    refine q_X11_isLot h52 A0_s52 e55 (fun D55 s55 h55 X55 => ?_)
    have hk := bup hk (L55 61)
    have hn := bup hn (L55 62)
    have X0 := X0.tr L0 X55
    have L0 := L0.tr L55
    replace hp := mrd_some hp
    refine ⟨fun c => ?_, fun c => ?_⟩
    · replace hp := mif_f hp c
      have A0_s55 := A0_s52.up L55 X55
      intro o57 ho57
      obtain ⟨b57, p57, B57⟩ := h55.cel 1110 11 rfl A0_s55 ho57
      refine ⟨b57, p57, ?_⟩
      obtain ⟨x59, ex59, hp⟩ := mbo_some hp
      refine q_at h55 (show cF 1110 11 = true from rfl) B57 ex59 ?_
      exact hq _ _ _ _ h55 L0 X0 hp
    · replace hp := mif_t hp c
      have hb := mthr_b hp hk hn
      exact ⟨hb.1, hb.2, hy _ _ _ _ h55 L0 X0 hp (by decide)⟩
set_option maxRecDepth 100000 in
set_option maxHeartbeats 1000000 in
theorem q_X11_room {D : Nat → Nat → Nat} {σ : St} {S S' : Ss} {a0 : Nat} {x1 : Int32} {r : Nat × Int32} (h : RC D σ S) (A0 : AT D S 11 0 a0) (hp : (f_X11_room x1).1 S = some (r, S')) {k n : Nat} (hk : zN S' 61 ≤ zN S 61 + k) (hn : zN S' 62 ≤ zN S 62 + n) {Q : Int32 → St → Prop} (hq : ∀ D' τ, RC D' τ S' → DX S D D' → r.1 = 0 → Q r.2 τ) {Y : Nat → St → Prop} (hy : ∀ D' τ u, RC D' τ S' → DX S D D' → r.1 = u → ¬ u = 0 → Y u τ) : w_X11_room k n a0 x1 σ Q Y := by
  have L0 := zle.rf S
  have X0 := DX.rf S D
  replace hq : ∀ D9 σ9 S9 x, RC D9 σ9 S9 → zle S S9 → DX S D D9 → (mret (0, x)).1 S9 = some (r, S') → Q x σ9 := fun D9 σ9 S9 x h9 _ X9 e9 => by obtain ⟨rfl, rfl⟩ := mret_some e9; exact hq D9 σ9 h9 X9 rfl
  replace hy : ∀ D9 σ9 S9 u, RC D9 σ9 S9 → zle S S9 → DX S D D9 → (mthr u).1 S9 = some (r, S') → ¬ u = 0 → Y u σ9 := fun D9 σ9 S9 u h9 _ X9 e9 n9 => by cases e9; exact hy D9 σ9 u (h9.cost _ _) X9 rfl n9
  unfold f_X11_room at hp
  unfold w_X11_room
  obtain ⟨x51, S52, e52, L52, hp⟩ := mb_some hp
  refine q_X11_isSlot h  e52 (fun D52 s52 h52 X52 => ?_)
  have hk := bup hk (L52 61)
  have hn := bup hn (L52 62)
  have X0 := X0.tr L0 X52
  have L0 := L0.tr L52
  refine ⟨fun c => ?_, fun c => ?_⟩
  · replace hp := mif_f hp c
    have A0_s52 := A0.up L52 X52
    obtain ⟨x54, S55, e55, L55, hp⟩ := mb_some hp
    refine q_X11_freeRoom h52 A0_s52 e55 (fun D55 s55 h55 X55 => ?_)
    have hk := bup hk (L55 61)
    have hn := bup hn (L55 62)
    have X0 := X0.tr L0 X55
    have L0 := L0.tr L55
    exact hq _ _ _ _ h55 L0 X0 hp
  · replace hp := mif_t hp c
    have hb := mthr_b hp hk hn
    exact ⟨hb.1, hb.2, hy _ _ _ _ h52 L0 X0 hp (by decide)⟩
set_option maxRecDepth 100000 in
set_option maxHeartbeats 1000000 in
theorem q_X11_sent {D : Nat → Nat → Nat} {σ : St} {S S' : Ss} {a0 : Nat} {x1 : Int32} {x2 : Int32} {r : Nat × Int32} (h : RC D σ S) (A0 : AT D S 11 0 a0) (hp : (f_X11_sent x1 x2).1 S = some (r, S')) {k n : Nat} (hk : zN S' 61 ≤ zN S 61 + k) (hn : zN S' 62 ≤ zN S 62 + n) {Q : Int32 → St → Prop} (hq : ∀ D' τ, RC D' τ S' → DX S D D' → r.1 = 0 → Q r.2 τ) {Y : Nat → St → Prop} (hy : ∀ D' τ u, RC D' τ S' → DX S D D' → r.1 = u → ¬ u = 0 → Y u τ) : w_X11_sent k n a0 x1 x2 σ Q Y := by
  have L0 := zle.rf S
  have X0 := DX.rf S D
  replace hq : ∀ D9 σ9 S9 x, RC D9 σ9 S9 → zle S S9 → DX S D D9 → (mret (0, x)).1 S9 = some (r, S') → Q x σ9 := fun D9 σ9 S9 x h9 _ X9 e9 => by obtain ⟨rfl, rfl⟩ := mret_some e9; exact hq D9 σ9 h9 X9 rfl
  replace hy : ∀ D9 σ9 S9 u, RC D9 σ9 S9 → zle S S9 → DX S D D9 → (mthr u).1 S9 = some (r, S') → ¬ u = 0 → Y u σ9 := fun D9 σ9 S9 u h9 _ X9 e9 n9 => by cases e9; exact hy D9 σ9 u (h9.cost _ _) X9 rfl n9
  unfold f_X11_sent at hp
  unfold w_X11_sent
  obtain ⟨x51, S52, e52, L52, hp⟩ := mb_some hp
  refine q_X11_isOrder h A0 e52 (fun D52 s52 h52 X52 => ?_)
  have hk := bup hk (L52 61)
  have hn := bup hn (L52 62)
  have X0 := X0.tr L0 X52
  have L0 := L0.tr L52
  refine ⟨fun c => ?_, fun c => ?_⟩
  · replace hp := mif_t hp c
    have hb := mthr_b hp hk hn
    exact ⟨hb.1, hb.2, hy _ _ _ _ h52 L0 X0 hp (by decide)⟩
  · replace hp := mif_f hp c
    have A0_s52 := A0.up L52 X52
    obtain ⟨x54, S55, e55, L55, hp⟩ := mb_some hp
    refine q_X11_isLot h52 A0_s52 e55 (fun D55 s55 h55 X55 => ?_)
    have hk := bup hk (L55 61)
    have hn := bup hn (L55 62)
    have X0 := X0.tr L0 X55
    have L0 := L0.tr L55
    replace hp := mrd_some hp
    refine ⟨fun c => ?_, fun c => ?_⟩
    · replace hp := mif_f hp c
      have A0_s55 := A0_s52.up L55 X55
      intro o57 ho57
      obtain ⟨b57, p57, B57⟩ := h55.cel 1111 11 rfl A0_s55 ho57
      refine ⟨b57, p57, ?_⟩
      obtain ⟨x59, ex59, hp⟩ := mbo_some hp
      refine q_at h55 (show cF 1111 11 = true from rfl) B57 ex59 ?_
      exact hq _ _ _ _ h55 L0 X0 hp
    · replace hp := mif_t hp c
      have hb := mthr_b hp hk hn
      exact ⟨hb.1, hb.2, hy _ _ _ _ h55 L0 X0 hp (by decide)⟩
set_option maxRecDepth 100000 in
set_option maxHeartbeats 1000000 in
theorem q_X11_slotToRefillFrom_2 {D0 : Nat → Nat → Nat} {S0 S' : Ss} {r : Int32} {Q : Int32 → St → Prop} (hq : ∀ D σ S x, RC D σ S → zle S0 S → DX S0 D0 D → (mret x).1 S = some (r, S') → Q x σ) : ∀ (f : Nat) (D : Nat → Nat → Nat) (σ : St) (S : Ss) (a0 : Nat) (a1 : Nat) (i1 : Nat) (x2 : Int32), RC D σ S → zle S0 S → DX S0 D0 D → AT D S 11 0 a0 → AT D S 5 i1 a1 → (f_X11_slotToRefillFrom_2 f i1 x2).1 S = some (r, S') → w_X11_slotToRefillFrom_2 Q  f a0 a1 x2 σ := by
  intro f
  induction f with
  | zero => intro D σ S a0 a1 i1 x2 h L0 X0 A0 A1 hp; cases hp
  | succ f ih =>
    intro D σ S a0 a1 i1 x2 h L0 X0 A0 A1 hp
    unfold f_X11_slotToRefillFrom_2 at hp
    unfold w_X11_slotToRefillFrom_2
    replace hp := mrd_some hp
    intro o51 ho51
    obtain ⟨b51, p51, B51⟩ := h.arr 1100 9 rfl A0 ho51
    refine ⟨b51, p51, ?_⟩
    refine ⟨fun c => ?_, fun c => ?_⟩
    · rw [h.aln 1100 9 rfl B51] at c
      replace hp := mif_t hp c
      exact hq _ _ _ _ h L0 X0 hp
    · rw [h.aln 1100 9 rfl B51] at c
      replace hp := mif_f hp c
      intro o54 ho54
      obtain ⟨b54, p54, B54⟩ := h.arr 1100 9 rfl A0 ho54
      refine ⟨b54, p54, ?_⟩
      obtain ⟨v_1, hp⟩ := mix_some hp
      refine ⟨by rw [h.aln 1100 9 rfl B54]; exact v_1, ?_⟩
      intro o57 ho57
      have C57 := h.ael 1100 9 rfl B54 v_1
      rw [← ho57] at C57
      obtain ⟨b57, p57, B57⟩ := C57.so rfl
      refine ⟨b57, p57, ?_⟩
      intro o59 ho59
      obtain ⟨r59, e59, hp⟩ := mbo_some hp
      have B59 := h.refr 902 9 3 rfl B57
      rw [← ho59, ← e59] at B59
      refine ⟨fun c => ?_, fun a61 c => ?_⟩
      · replace hp := mcase_n hp (B59.no c)
        intro o62 ho62
        obtain ⟨b62, p62, B62⟩ := h.bok A0 ho62
        refine ⟨b62, p62, ?_⟩
        rw [h.int 500 5 rfl (by decide) A1]
        obtain ⟨x64, S65, e65, L65, hp⟩ := mb_some hp
        refine q_X0_freePieces h B62 e65 (fun D65 s65 h65 X65 => ?_)
        have X0 := X0.tr L0 X65
        have L0 := L0.tr L65
        refine ⟨fun c => ?_, fun c => ?_⟩
        · replace hp := mif_t hp c
          have A0_s65 := A0.up L65 X65
          have A1_s65 := A1.up L65 X65
          exact ih _ _ _ _ _ _ _ h65 L0 X0 A0_s65 A1_s65 hp
        · replace hp := mif_f hp c
          exact hq _ _ _ _ h65 L0 X0 hp
      · obtain ⟨i61, e61, B61⟩ := B59.sa c
        replace hp := mcase_s hp e61
        exact ih _ _ _ _ _ _ _ h L0 X0 A0 A1 hp
set_option maxRecDepth 100000 in
set_option maxHeartbeats 1000000 in
theorem q_X11_slotToRefillFrom {D : Nat → Nat → Nat} {σ : St} {S S' : Ss} {a0 : Nat} {a1 : Nat} {i1 : Nat} {r : Int32} (h : RC D σ S) (A0 : AT D S 11 0 a0) (A1 : AT D S 5 i1 a1) (hp : (f_X11_slotToRefillFrom i1).1 S = some (r, S')) {Q : Int32 → St → Prop} (hq : ∀ D' τ, RC D' τ S' → DX S D D' → Q r τ) : w_X11_slotToRefillFrom a0 a1 σ Q := by
  have L0 := zle.rf S
  have X0 := DX.rf S D
  replace hq : ∀ D9 σ9 S9 x, RC D9 σ9 S9 → zle S S9 → DX S D D9 → (mret x).1 S9 = some (r, S') → Q x σ9 := fun D9 σ9 S9 x h9 _ X9 e9 => by obtain ⟨rfl, rfl⟩ := mret_some e9; exact hq D9 σ9 h9 X9
  unfold f_X11_slotToRefillFrom at hp
  unfold w_X11_slotToRefillFrom
  refine ⟨FU, ?_⟩
  exact q_X11_slotToRefillFrom_2 hq FU _ _ _ _ _ _ _ h L0 X0 A0 A1 hp
set_option maxRecDepth 100000 in
set_option maxHeartbeats 1000000 in
theorem q_X11_stock {D : Nat → Nat → Nat} {σ : St} {S S' : Ss} {a0 : Nat} {x1 : Int32} {x2 : Int32} {r : Nat × Int32} (h : RC D σ S) (A0 : AT D S 11 0 a0) (hp : (f_X11_stock x1 x2).1 S = some (r, S')) {k n : Nat} (hk : zN S' 61 ≤ zN S 61 + k) (hn : zN S' 62 ≤ zN S 62 + n) {Q : Int32 → St → Prop} (hq : ∀ D' τ, RC D' τ S' → DX S D D' → r.1 = 0 → Q r.2 τ) {Y : Nat → St → Prop} (hy : ∀ D' τ u, RC D' τ S' → DX S D D' → r.1 = u → ¬ u = 0 → Y u τ) : w_X11_stock k n a0 x1 x2 σ Q Y := by
  have L0 := zle.rf S
  have X0 := DX.rf S D
  replace hq : ∀ D9 σ9 S9 x, RC D9 σ9 S9 → zle S S9 → DX S D D9 → (mret (0, x)).1 S9 = some (r, S') → Q x σ9 := fun D9 σ9 S9 x h9 _ X9 e9 => by obtain ⟨rfl, rfl⟩ := mret_some e9; exact hq D9 σ9 h9 X9 rfl
  replace hy : ∀ D9 σ9 S9 u, RC D9 σ9 S9 → zle S S9 → DX S D D9 → (mthr u).1 S9 = some (r, S') → ¬ u = 0 → Y u σ9 := fun D9 σ9 S9 u h9 _ X9 e9 n9 => by cases e9; exact hy D9 σ9 u (h9.cost _ _) X9 rfl n9
  unfold f_X11_stock at hp
  unfold w_X11_stock
  obtain ⟨x51, S52, e52, L52, hp⟩ := mb_some hp
  refine q_X11_isWithin h  e52 (fun D52 s52 h52 X52 => ?_)
  have hk := bup hk (L52 61)
  have hn := bup hn (L52 62)
  have X0 := X0.tr L0 X52
  have L0 := L0.tr L52
  refine ⟨fun c => ?_, fun c => ?_⟩
  · replace hp := mif_t hp c
    have hb := mthr_b hp hk hn
    exact ⟨hb.1, hb.2, hy _ _ _ _ h52 L0 X0 hp (by decide)⟩
  · replace hp := mif_f hp c
    have A0_s52 := A0.up L52 X52
    obtain ⟨x54, S55, e55, L55, hp⟩ := mb_some hp
    refine q_X11_isLot h52 A0_s52 e55 (fun D55 s55 h55 X55 => ?_)
    have hk := bup hk (L55 61)
    have hn := bup hn (L55 62)
    have X0 := X0.tr L0 X55
    have L0 := L0.tr L55
    replace hp := mrd_some hp
    refine ⟨fun c => ?_, fun c => ?_⟩
    · replace hp := mif_f hp c
      have A0_s55 := A0_s52.up L55 X55
      intro o57 ho57
      obtain ⟨b57, p57, B57⟩ := h55.bok A0_s55 ho57
      refine ⟨b57, p57, ?_⟩
      intro o59 ho59
      obtain ⟨b59, p59, B59⟩ := h55.cel 0 0 rfl B57 ho59
      refine ⟨b59, p59, ?_⟩
      obtain ⟨x61, ex61, hp⟩ := mbo_some hp
      refine q_at h55 (show cF 0 0 = true from rfl) B59 ex61 ?_
      exact hq _ _ _ _ h55 L0 X0 hp
    · replace hp := mif_t hp c
      have hb := mthr_b hp hk hn
      exact ⟨hb.1, hb.2, hy _ _ _ _ h55 L0 X0 hp (by decide)⟩
set_option maxRecDepth 100000 in
set_option maxHeartbeats 1000000 in
theorem q_X11_stockAnew {D : Nat → Nat → Nat} {σ : St} {S S' : Ss} {a0 : Nat} {x1 : Int32} {x2 : Int32} {r : Nat × Int32} (h : RC D σ S) (A0 : AT D S 11 0 a0) (hp : (f_X11_stockAnew x1 x2).1 S = some (r, S')) {k n : Nat} (hk : zN S' 61 ≤ zN S 61 + k) (hn : zN S' 62 ≤ zN S 62 + n) {Q : Int32 → St → Prop} (hq : ∀ D' τ, RC D' τ S' → DX S D D' → r.1 = 0 → Q r.2 τ) {Y : Nat → St → Prop} (hy : ∀ D' τ u, RC D' τ S' → DX S D D' → r.1 = u → ¬ u = 0 → Y u τ) : w_X11_stockAnew k n a0 x1 x2 σ Q Y := by
  have L0 := zle.rf S
  have X0 := DX.rf S D
  replace hq : ∀ D9 σ9 S9 x, RC D9 σ9 S9 → zle S S9 → DX S D D9 → (mret (0, x)).1 S9 = some (r, S') → Q x σ9 := fun D9 σ9 S9 x h9 _ X9 e9 => by obtain ⟨rfl, rfl⟩ := mret_some e9; exact hq D9 σ9 h9 X9 rfl
  replace hy : ∀ D9 σ9 S9 u, RC D9 σ9 S9 → zle S S9 → DX S D D9 → (mthr u).1 S9 = some (r, S') → ¬ u = 0 → Y u σ9 := fun D9 σ9 S9 u h9 _ X9 e9 n9 => by cases e9; exact hy D9 σ9 u (h9.cost _ _) X9 rfl n9
  unfold f_X11_stockAnew at hp
  unfold w_X11_stockAnew
  obtain ⟨x51, S52, e52, L52, hp⟩ := mb_some hp
  refine q_X11_isWithin h  e52 (fun D52 s52 h52 X52 => ?_)
  have hk := bup hk (L52 61)
  have hn := bup hn (L52 62)
  have X0 := X0.tr L0 X52
  have L0 := L0.tr L52
  refine ⟨fun c => ?_, fun c => ?_⟩
  · replace hp := mif_t hp c
    have hb := mthr_b hp hk hn
    exact ⟨hb.1, hb.2, hy _ _ _ _ h52 L0 X0 hp (by decide)⟩
  · replace hp := mif_f hp c
    have A0_s52 := A0.up L52 X52
    obtain ⟨x54, S55, e55, L55, hp⟩ := mb_some hp
    refine q_X11_isLot h52 A0_s52 e55 (fun D55 s55 h55 X55 => ?_)
    have hk := bup hk (L55 61)
    have hn := bup hn (L55 62)
    have X0 := X0.tr L0 X55
    have L0 := L0.tr L55
    refine ⟨fun c => ?_, fun c => ?_⟩
    · replace hp := mif_f hp c
      have A0_s55 := A0_s52.up L55 X55
      intro o57 ho57
      obtain ⟨b57, p57, B57⟩ := h55.bok A0_s55 ho57
      refine ⟨b57, p57, ?_⟩
      obtain ⟨x59, S60, e60, L60, hp⟩ := mb_some hp
      refine q_X0_madeAnew h55 B57 e60 (fun D60 s60 h60 X60 => ?_)
      have hk := bup hk (L60 61)
      have hn := bup hn (L60 62)
      have X0 := X0.tr L0 X60
      have L0 := L0.tr L60
      exact hq _ _ _ _ h60 L0 X0 hp
    · replace hp := mif_t hp c
      have hb := mthr_b hp hk hn
      exact ⟨hb.1, hb.2, hy _ _ _ _ h55 L0 X0 hp (by decide)⟩
set_option maxRecDepth 100000 in
set_option maxHeartbeats 1000000 in
theorem q_X11_undoStandstill_8 {D0 : Nat → Nat → Nat} {S0 S' : Ss} {r : Unit} {Q : St → Prop} (hq : ∀ D σ S, RC D σ S → zle S0 S → DX S0 D0 D → (mret ()).1 S = some (r, S') → Q σ) : ∀ (f : Nat) (D : Nat → Nat → Nat) (σ : St) (S : Ss) (a0 : Nat) (x1 : Int32), RC D σ S → zle S0 S → DX S0 D0 D → AT D S 11 0 a0 → (f_X11_undoStandstill_8 f x1).1 S = some (r, S') → w_X11_undoStandstill_8 Q  f a0 x1 σ := by
  intro f
  induction f with
  | zero => intro D σ S a0 x1 h L0 X0 A0 hp; cases hp
  | succ f ih =>
    intro D σ S a0 x1 h L0 X0 A0 hp
    unfold f_X11_undoStandstill_8 at hp
    unfold w_X11_undoStandstill_8
    refine ⟨fun c => ?_, fun c => ?_⟩
    · replace hp := mif_t hp c
      exact hq _ _ _ h L0 X0 hp
    · replace hp := mif_f hp c
      intro o55 ho55
      obtain ⟨b55, p55, B55⟩ := h.arr 1102 8 rfl A0 ho55
      refine ⟨b55, p55, ?_⟩
      obtain ⟨v_1, hp⟩ := mix_some hp
      refine ⟨by rw [h.aln 1102 8 rfl B55]; exact v_1, ?_⟩
      intro o58 ho58
      have C58 := h.ael 1102 8 rfl B55 v_1
      rw [← ho58] at C58
      obtain ⟨b58, p58, B58⟩ := C58.so rfl
      refine ⟨b58, p58, ?_⟩
      obtain ⟨x60, S61, e61, L61, hp⟩ := mb_some hp
      refine q_X11_isInRing h A0 B58 e61 (fun D61 s61 h61 X61 => ?_)
      have X0 := X0.tr L0 X61
      have L0 := L0.tr L61
      refine ⟨fun c => ?_, fun c => ?_⟩
      · replace hp := mif_t hp c
        have A0_s61 := A0.up L61 X61
        exact ih _ _ _ _ _ h61 L0 X0 A0_s61 hp
      · replace hp := mif_f hp c
        have A0_s61 := A0.up L61 X61
        intro o63 ho63
        obtain ⟨b63, p63, B63⟩ := h61.arr 1102 8 rfl A0_s61 ho63
        refine ⟨b63, p63, ?_⟩
        obtain ⟨v_2, hp⟩ := mix_some hp
        refine ⟨by rw [h61.aln 1102 8 rfl B63]; exact v_2, ?_⟩
        intro o66 ho66
        have C66 := h61.ael 1102 8 rfl B63 v_2
        rw [← ho66] at C66
        obtain ⟨b66, p66, B66⟩ := C66.so rfl
        refine ⟨b66, p66, ?_⟩
        obtain ⟨w69, S69, e69, L69, hp⟩ := mb_some hp
        refine q_X8_goToFront h61 B66 e69 (fun D69 s69 h69 X69 => ?_)
        have X0 := X0.tr L0 X69
        have L0 := L0.tr L69
        replace hp := mrd_some hp
        intro s70 es70
        have A0_s69 := A0_s61.up L69 X69
        rw [h69.int 1117 11 rfl (by decide) A0_s69] at es70
        obtain ⟨S70, z70, L70, hp⟩ := mst_some hp
        have h70 := h69.wI (rfl : 1117 / 100 = 11) (by decide) (by decide) A0_s69 es70
        rw [z70] at h70
        have L0 := L0.tr L70
        exact hq _ _ _ h70 L0 X0 hp
set_option maxRecDepth 100000 in
set_option maxHeartbeats 1000000 in
theorem q_X11_undoStandstill {D : Nat → Nat → Nat} {σ : St} {S S' : Ss} {a0 : Nat} {r : Unit} (h : RC D σ S) (A0 : AT D S 11 0 a0) (hp : (f_X11_undoStandstill ).1 S = some (r, S')) {Q : St → Prop} (hq : ∀ D' τ, RC D' τ S' → DX S D D' → Q τ) : w_X11_undoStandstill a0 σ Q := by
  have L0 := zle.rf S
  have X0 := DX.rf S D
  replace hq : ∀ D9 σ9 S9, RC D9 σ9 S9 → zle S S9 → DX S D D9 → (mret ()).1 S9 = some (r, S') → Q σ9 := fun D9 σ9 S9 h9 _ X9 e9 => by obtain ⟨rfl, rfl⟩ := mret_some e9; exact hq D9 σ9 h9 X9
  unfold f_X11_undoStandstill at hp
  unfold w_X11_undoStandstill
  intro o51 ho51
  obtain ⟨b51, p51, B51⟩ := h.arr 1102 8 rfl A0 ho51
  refine ⟨b51, p51, ?_⟩
  intro x53 hx53
  rw [h.aln 1102 8 rfl B51] at hx53
  obtain ⟨yx53, ex53, hp⟩ := mbo_some hp
  obtain rfl : yx53 = x53 := ex53.trans hx53.symm
  refine ⟨FU, ?_⟩
  exact q_X11_undoStandstill_8 hq FU _ _ _ _ _ h L0 X0 A0 hp
set_option maxRecDepth 100000 in
set_option maxHeartbeats 1000000 in
theorem q_X0_believeTruth {D : Nat → Nat → Nat} {σ : St} {S S' : Ss} {a0 : Nat} {x1 : Int32} {a2 : Nat} {i2 : Nat} {r : Unit} (h : RC D σ S) (A0 : AT D S 0 0 a0) (A2 : AT D S 5 i2 a2) (hp : (f_X0_believeTruth x1 i2).1 S = some (r, S')) {k n : Nat} (hk : zN S' 61 ≤ zN S 61 + k) (hn : zN S' 62 ≤ zN S 62 + n) {Q : St → Prop} (hq : ∀ D' τ, RC D' τ S' → DX S D D' → Q τ) : w_X0_believeTruth k n a0 x1 a2 σ Q := by
  have L0 := zle.rf S
  have X0 := DX.rf S D
  replace hq : ∀ D9 σ9 S9, RC D9 σ9 S9 → zle S S9 → DX S D D9 → (mret ()).1 S9 = some (r, S') → Q σ9 := fun D9 σ9 S9 h9 _ X9 e9 => by obtain ⟨rfl, rfl⟩ := mret_some e9; exact hq D9 σ9 h9 X9
  unfold f_X0_believeTruth at hp
  unfold w_X0_believeTruth
  replace hp := mrd_some hp
  intro o51 ho51
  obtain ⟨b51, p51, B51⟩ := h.cel 2 0 rfl A0 ho51
  refine ⟨b51, p51, ?_⟩
  rw [h.int 500 5 rfl (by decide) A2]
  obtain ⟨x53, ex53, hp⟩ := mbo_some hp
  refine q_at h (show cF 2 0 = true from rfl) B51 ex53 ?_
  intro o55 ho55
  obtain ⟨b55, p55, B55⟩ := h.cel 0 0 rfl A0 ho55
  refine ⟨b55, p55, ?_⟩
  rw [h.int 500 5 rfl (by decide) A2]
  obtain ⟨x57, ex57, hp⟩ := mbo_some hp
  refine q_at h (show cF 0 0 = true from rfl) B55 ex57 ?_
  obtain ⟨w60, S60, e60, L60, hp⟩ := mb_some hp
  have M60 := mle hp
  obtain ⟨k61, k63, f1, f2, hk⟩ := bud (L60 61) (M60 61) hk
  obtain ⟨n62, n64, g1, g2, hn⟩ := bud (L60 62) (M60 62) hn
  refine ⟨k61, n62, k63, n64, f1, g1, q_X0_write h A0 A2 e60 f2 g2 (fun D60 s60 h60 X60 => ?_)⟩
  have X0 := X0.tr L0 X60
  have L0 := L0.tr L60
  exact hq _ _ _ h60 L0 X0 hp
set_option maxRecDepth 100000 in
set_option maxHeartbeats 1000000 in
theorem q_X0_move_27 {D0 : Nat → Nat → Nat} {S0 S' : Ss} {r : Unit} {Q : St → Prop} (hq : ∀ D σ S, RC D σ S → zle S0 S → DX S0 D0 D → (mret ()).1 S = some (r, S') → Q σ) : ∀ (D : Nat → Nat → Nat) (σ : St) (S : Ss) (a0 : Nat) (x1 : Int32) (x2 : Int32) (a3 : Nat) (i3 : Nat) (x4 : Int32) (xs0 : Int32), RC D σ S → zle S0 S → DX S0 D0 D → AT D S 0 0 a0 → AT D S 5 i3 a3 → (f_X0_move_27 x1 x2 i3 x4 xs0).1 S = some (r, S') → ∀ k n : Nat, zN S' 61 ≤ zN S 61 + k → zN S' 62 ≤ zN S 62 + n → w_X0_move_27 Q  a0 x1 x2 a3 x4 xs0 σ k n := by
  intro D σ S a0 x1 x2 a3 i3 x4 xs0 h L0 X0 A0 A3 hp k n hk hn
  unfold f_X0_move_27 at hp
  unfold w_X0_move_27
  replace hp := mrd_some hp
  intro o56 ho56
  obtain ⟨b56, p56, B56⟩ := h.cel 2 0 rfl A0 ho56
  refine ⟨b56, p56, ?_⟩
  rw [h.int 500 5 rfl (by decide) A3]
  obtain ⟨S59, z59, L59, hp⟩ := mst_some hp
  refine q_addc h (show cF 2 0 = true from rfl) B56 (fun s59 h59 => ?_)
  rw [z59] at h59
  have L0 := L0.tr L59
  have hk := bup hk (L59 61)
  have hn := bup hn (L59 62)
  replace hp := mrd_some hp
  have A0_s59 := A0.up L59 (DX.rf _ _)
  intro o60 ho60
  obtain ⟨b60, p60, B60⟩ := h59.cel 2 0 rfl A0_s59 ho60
  refine ⟨b60, p60, ?_⟩
  have A3_s59 := A3.up L59 (DX.rf _ _)
  rw [h59.int 500 5 rfl (by decide) A3_s59]
  obtain ⟨S63, z63, L63, hp⟩ := mst_some hp
  refine q_addc h59 (show cF 2 0 = true from rfl) B60 (fun s63 h63 => ?_)
  rw [z63] at h63
  have L0 := L0.tr L63
  have hk := bup hk (L63 61)
  have hn := bup hn (L63 62)
  have A0_s63 := A0_s59.up L63 (DX.rf _ _)
  have A3_s63 := A3_s59.up L63 (DX.rf _ _)
  obtain ⟨w65, S65, e65, L65, hp⟩ := mb_some hp
  have M65 := mle hp
  obtain ⟨k66, k68, f1, f2, hk⟩ := bud (L65 61) (M65 61) hk
  obtain ⟨n67, n69, g1, g2, hn⟩ := bud (L65 62) (M65 62) hn
  refine ⟨k66, n67, k68, n69, f1, g1, q_X0_write h63 A0_s63 A3_s63 e65 f2 g2 (fun D65 s65 h65 X65 => ?_)⟩
  have X0 := X0.tr L0 X65
  have L0 := L0.tr L65
  exact hq _ _ _ h65 L0 X0 hp
set_option maxRecDepth 100000 in
set_option maxHeartbeats 1000000 in
theorem q_X0_move {D : Nat → Nat → Nat} {σ : St} {S S' : Ss} {a0 : Nat} {x1 : Int32} {x2 : Int32} {a3 : Nat} {i3 : Nat} {x4 : Int32} {r : Unit} (h : RC D σ S) (A0 : AT D S 0 0 a0) (A3 : AT D S 5 i3 a3) (hp : (f_X0_move x1 x2 i3 x4).1 S = some (r, S')) {k n : Nat} (hk : zN S' 61 ≤ zN S 61 + k) (hn : zN S' 62 ≤ zN S 62 + n) {Q : St → Prop} (hq : ∀ D' τ, RC D' τ S' → DX S D D' → Q τ) : w_X0_move k n a0 x1 x2 a3 x4 σ Q := by
  have L0 := zle.rf S
  have X0 := DX.rf S D
  replace hq : ∀ D9 σ9 S9, RC D9 σ9 S9 → zle S S9 → DX S D D9 → (mret ()).1 S9 = some (r, S') → Q σ9 := fun D9 σ9 S9 h9 _ X9 e9 => by obtain ⟨rfl, rfl⟩ := mret_some e9; exact hq D9 σ9 h9 X9
  unfold f_X0_move at hp
  unfold w_X0_move
  replace hp := mrd_some hp
  refine ⟨fun c => ?_, fun c => ?_⟩
  · replace hp := mif_f hp c
    intro o52 ho52
    obtain ⟨b52, p52, B52⟩ := h.cel 2 0 rfl A0 ho52
    refine ⟨b52, p52, ?_⟩
    rw [h.int 500 5 rfl (by decide) A3]
    obtain ⟨x54, ex54, hp⟩ := mbo_some hp
    refine q_at h (show cF 2 0 = true from rfl) B52 ex54 ?_
    exact q_X0_move_27 hq  _ _ _ _ _ _ _ _ _ _ h L0 X0 A0 A3 hp _ _ hk hn
  · replace hp := mif_t hp c
    exact q_X0_move_27 hq  _ _ _ _ _ _ _ _ _ _ h L0 X0 A0 A3 hp _ _ hk hn
set_option maxRecDepth 100000 in
set_option maxHeartbeats 1000000 in
theorem q_X11_canTake_82 {D0 : Nat → Nat → Nat} {S0 S' : Ss} {r : Int32} {Q : Int32 → St → Prop} (hq : ∀ D σ S x, RC D σ S → zle S0 S → DX S0 D0 D → (mret x).1 S = some (r, S') → Q x σ) : ∀ (D : Nat → Nat → Nat) (σ : St) (S : Ss) (a0 : Nat) (x1 : Int32) (a2 : Nat) (i2 : Nat) (x4 : Int32), RC D σ S → zle S0 S → DX S0 D0 D → AT D S 11 0 a0 → AT D S 3 i2 a2 → (f_X11_canTake_82 x1 i2 x4).1 S = some (r, S') → w_X11_canTake_82 Q  a0 x1 a2 x4 σ := by
  intro D σ S a0 x1 a2 i2 x4 h L0 X0 A0 A2 hp
  unfold f_X11_canTake_82 at hp
  unfold w_X11_canTake_82
  refine ⟨fun c => ?_, fun c => ?_⟩
  · replace hp := mif_t hp c
    exact hq _ _ _ _ h L0 X0 hp
  · replace hp := mif_f hp c
    obtain ⟨x77, S78, e78, L78, hp⟩ := mb_some hp
    refine q_X11_isBarredIn h A0 A2 e78 (fun D78 s78 h78 X78 => ?_)
    have X0 := X0.tr L0 X78
    have L0 := L0.tr L78
    refine ⟨fun c => ?_, fun c => ?_⟩
    · replace hp := mif_f hp c
      exact hq _ _ _ _ h78 L0 X0 hp
    · replace hp := mif_t hp c
      exact hq _ _ _ _ h78 L0 X0 hp
set_option maxRecDepth 100000 in
set_option maxHeartbeats 1000000 in
theorem q_X11_canTake {D : Nat → Nat → Nat} {σ : St} {S S' : Ss} {a0 : Nat} {x1 : Int32} {a2 : Nat} {i2 : Nat} {x3 : Int32} {r : Int32} (h : RC D σ S) (A0 : AT D S 11 0 a0) (A2 : AT D S 3 i2 a2) (hp : (f_X11_canTake x1 i2 x3).1 S = some (r, S')) {Q : Int32 → St → Prop} (hq : ∀ D' τ, RC D' τ S' → DX S D D' → Q r τ) : w_X11_canTake a0 x1 a2 x3 σ Q := by
  have L0 := zle.rf S
  have X0 := DX.rf S D
  replace hq : ∀ D9 σ9 S9 x, RC D9 σ9 S9 → zle S S9 → DX S D D9 → (mret x).1 S9 = some (r, S') → Q x σ9 := fun D9 σ9 S9 x h9 _ X9 e9 => by obtain ⟨rfl, rfl⟩ := mret_some e9; exact hq D9 σ9 h9 X9
  unfold f_X11_canTake at hp
  unfold w_X11_canTake
  obtain ⟨x51, S52, e52, L52, hp⟩ := mb_some hp
  refine q_X11_isSlot h  e52 (fun D52 s52 h52 X52 => ?_)
  have X0 := X0.tr L0 X52
  have L0 := L0.tr L52
  replace hp := mrd_some hp
  refine ⟨fun c => ?_, fun c => ?_⟩
  · replace hp := mif_t hp c
    exact hq _ _ _ _ h52 L0 X0 hp
  · replace hp := mif_f hp c
    have A0_s52 := A0.up L52 X52
    intro o54 ho54
    obtain ⟨b54, p54, B54⟩ := h52.arr 1100 9 rfl A0_s52 ho54
    refine ⟨b54, p54, ?_⟩
    obtain ⟨v_1, hp⟩ := mix_some hp
    refine ⟨by rw [h52.aln 1100 9 rfl B54]; exact v_1, ?_⟩
    intro o57 ho57
    have C57 := h52.ael 1100 9 rfl B54 v_1
    rw [← ho57] at C57
    obtain ⟨b57, p57, B57⟩ := C57.so rfl
    refine ⟨b57, p57, ?_⟩
    intro o59 ho59
    obtain ⟨r59, e59, hp⟩ := mbo_some hp
    have B59 := h52.refr 902 9 3 rfl B57
    rw [← ho59, ← e59] at B59
    refine ⟨fun c => ?_, fun a61 c => ?_⟩
    · replace hp := mcase_n hp (B59.no c)
      intro o62 ho62
      obtain ⟨b62, p62, B62⟩ := h52.arr 1100 9 rfl A0_s52 ho62
      refine ⟨b62, p62, ?_⟩
      obtain ⟨v_2, hp⟩ := mix_some hp
      refine ⟨by rw [h52.aln 1100 9 rfl B62]; exact v_2, ?_⟩
      intro o65 ho65
      have C65 := h52.ael 1100 9 rfl B62 v_2
      rw [← ho65] at C65
      obtain ⟨b65, p65, B65⟩ := C65.so rfl
      refine ⟨b65, p65, ?_⟩
      have A2_s52 := A2.up L52 X52
      refine ⟨fun c => ?_, fun c => ?_⟩
      · rw [h52.int 900 9 rfl (by decide) B65, h52.int 301 3 rfl (by decide) A2_s52] at c
        replace hp := mif_f hp c
        exact hq _ _ _ _ h52 L0 X0 hp
      · rw [h52.int 900 9 rfl (by decide) B65, h52.int 301 3 rfl (by decide) A2_s52] at c
        replace hp := mif_t hp c
        obtain ⟨x68, S69, e69, L69, hp⟩ := mb_some hp
        refine q_X11_freeRoom h52 A0_s52 e69 (fun D69 s69 h69 X69 => ?_)
        have X0 := X0.tr L0 X69
        have L0 := L0.tr L69
        replace hp := mrd_some hp
        have A2_s69 := A2_s52.up L69 X69
        refine ⟨fun c => ?_, fun c => ?_⟩
        · rw [h69.int 302 3 rfl (by decide) A2_s69] at c
          replace hp := mif_t hp c
          intro x71 hx71
          obtain ⟨yx71, ex71, hp⟩ := mbo_some hp
          obtain rfl : yx71 = x71 := ex71.trans hx71.symm
          have A0_s69 := A0_s52.up L69 X69
          obtain ⟨x72, S73, e73, L73, hp⟩ := mb_some hp
          refine q_X11_isBarredIn h69 A0_s69 A2_s69 e73 (fun D73 s73 h73 X73 => ?_)
          have X0 := X0.tr L0 X73
          have L0 := L0.tr L73
          refine ⟨fun c => ?_, fun c => ?_⟩
          · replace hp := mif_f hp c
            exact hq _ _ _ _ h73 L0 X0 hp
          · replace hp := mif_t hp c
            refine ⟨fun c => ?_, fun c => ?_⟩
            · replace hp := mif_t hp c
              have A0_s73 := A0_s69.up L73 X73
              have A2_s73 := A2_s69.up L73 X73
              exact q_X11_canTake_82 hq  _ _ _ _ _ _ _ _ h73 L0 X0 A0_s73 A2_s73 hp
            · replace hp := mif_f hp c
              have A0_s73 := A0_s69.up L73 X73
              have A2_s73 := A2_s69.up L73 X73
              obtain ⟨x80, S81, e81, L81, hp⟩ := mb_some hp
              refine q_X11_isBarredIn h73 A0_s73 A2_s73 e81 (fun D81 s81 h81 X81 => ?_)
              have X0 := X0.tr L0 X81
              have L0 := L0.tr L81
              refine ⟨fun c => ?_, fun c => ?_⟩
              · replace hp := mif_f hp c
                exact hq _ _ _ _ h81 L0 X0 hp
              · replace hp := mif_t hp c
                have A0_s81 := A0_s73.up L81 X81
                have A2_s81 := A2_s73.up L81 X81
                exact q_X11_canTake_82 hq  _ _ _ _ _ _ _ _ h81 L0 X0 A0_s81 A2_s81 hp
        · rw [h69.int 302 3 rfl (by decide) A2_s69] at c
          replace hp := mif_f hp c
          exact hq _ _ _ _ h69 L0 X0 hp
    · obtain ⟨i61, e61, B61⟩ := B59.sa c
      replace hp := mcase_s hp e61
      exact hq _ _ _ _ h52 L0 X0 hp
set_option maxRecDepth 100000 in
set_option maxHeartbeats 1000000 in
theorem q_X11_dropEmptyHoldings_10 {D0 : Nat → Nat → Nat} {S0 S' : Ss} {r : Unit} {Q : St → Prop} (hq : ∀ D σ S, RC D σ S → zle S0 S → DX S0 D0 D → (mret ()).1 S = some (r, S') → Q σ) : ∀ (f : Nat) (D : Nat → Nat → Nat) (σ : St) (S : Ss) (a0 : Nat) (x1 : Int32), RC D σ S → zle S0 S → DX S0 D0 D → AT D S 11 0 a0 → (f_X11_dropEmptyHoldings_10 f x1).1 S = some (r, S') → w_X11_dropEmptyHoldings_10 Q  f a0 x1 σ := by
  intro f
  induction f with
  | zero => intro D σ S a0 x1 h L0 X0 A0 hp; cases hp
  | succ f ih =>
    intro D σ S a0 x1 h L0 X0 A0 hp
    unfold f_X11_dropEmptyHoldings_10 at hp
    unfold w_X11_dropEmptyHoldings_10
    replace hp := mrd_some hp
    refine ⟨fun c => ?_, fun c => ?_⟩
    · replace hp := mif_t hp c
      exact hq _ _ _ h L0 X0 hp
    · replace hp := mif_f hp c
      intro o57 ho57
      obtain ⟨b57, p57, B57⟩ := h.lis 1107 11 2 rfl A0 ((lv_o (by decide)).mp A0.1) ho57
      refine ⟨b57, p57, ?_⟩
      obtain ⟨i59, e59, hp⟩ := mlget_some hp
      refine q_get h (show lF 1107 11 2 = true from rfl) B57 e59 (fun b59 B59 => ?_)
      refine ⟨b59, rfl, ?_⟩
      refine ⟨h.ob (by decide) B59, ?_⟩
      refine ⟨fun c => ?_, fun c => ?_⟩
      · rw [h.int 204 2 rfl (by decide) B59] at c
        replace hp := mif_t hp c
        exact ih _ _ _ _ _ h L0 X0 A0 hp
      · rw [h.int 204 2 rfl (by decide) B59] at c
        replace hp := mif_f hp c
        intro o64 ho64
        obtain ⟨b64, p64, B64⟩ := h.lis 1107 11 2 rfl A0 ((lv_o (by decide)).mp A0.1) ho64
        refine ⟨b64, p64, ?_⟩
        obtain ⟨i66, e66, S67, z67, L67, hp⟩ := mlrem_some hp
        refine q_lrem h (show lF 1107 11 2 = true from rfl) B64 e66 (fun s67 b66 h67 B66 => ?_)
        rw [z67] at h67
        have L0 := L0.tr L67
        have A0_s67 := A0.up L67 (DX.rf _ _)
        exact ih _ _ _ _ _ h67 L0 X0 A0_s67 hp
set_option maxRecDepth 100000 in
set_option maxHeartbeats 1000000 in
theorem q_X11_dropEmptyHoldings {D : Nat → Nat → Nat} {σ : St} {S S' : Ss} {a0 : Nat} {r : Unit} (h : RC D σ S) (A0 : AT D S 11 0 a0) (hp : (f_X11_dropEmptyHoldings ).1 S = some (r, S')) {Q : St → Prop} (hq : ∀ D' τ, RC D' τ S' → DX S D D' → Q τ) : w_X11_dropEmptyHoldings a0 σ Q := by
  have L0 := zle.rf S
  have X0 := DX.rf S D
  replace hq : ∀ D9 σ9 S9, RC D9 σ9 S9 → zle S S9 → DX S D D9 → (mret ()).1 S9 = some (r, S') → Q σ9 := fun D9 σ9 S9 h9 _ X9 e9 => by obtain ⟨rfl, rfl⟩ := mret_some e9; exact hq D9 σ9 h9 X9
  unfold f_X11_dropEmptyHoldings at hp
  unfold w_X11_dropEmptyHoldings
  replace hp := mrd_some hp
  intro o51 ho51
  obtain ⟨b51, p51, B51⟩ := h.lis 1107 11 2 rfl A0 ((lv_o (by decide)).mp A0.1) ho51
  refine ⟨b51, p51, ?_⟩
  obtain ⟨x53, ex53, hp⟩ := mbo_some hp
  refine q_size h (show lF 1107 11 2 = true from rfl) B51 ex53 ?_
  intro x55 hx55
  obtain ⟨yx55, ex55, hp⟩ := mbo_some hp
  obtain rfl : yx55 = x55 := ex55.trans hx55.symm
  refine ⟨FU, ?_⟩
  exact q_X11_dropEmptyHoldings_10 hq FU _ _ _ _ _ h L0 X0 A0 hp
set_option maxRecDepth 100000 in
set_option maxHeartbeats 1000000 in
theorem q_X11_face_126 {D0 : Nat → Nat → Nat} {S0 S' : Ss} {r : Nat × Int32} {Q : St → Prop} (hq : ∀ D σ S, RC D σ S → zle S0 S → DX S0 D0 D → (mret (0, 0)).1 S = some (r, S') → Q σ) {Y : Nat → St → Prop} (hy : ∀ D σ S u, RC D σ S → zle S0 S → DX S0 D0 D → (mthr u).1 S = some (r, S') → ¬ u = 0 → Y u σ) : ∀ (D : Nat → Nat → Nat) (σ : St) (S : Ss) (a0 : Nat) (x1 : Int32) (x3 : Int32) (x4 : Int32) (o6 : Option Nat) (r6 : Option Nat), RC D σ S → zle S0 S → DX S0 D0 D → AT D S 11 0 a0 → ATo D S 3 r6 o6 → (f_X11_face_126 x1 x3 x4 r6).1 S = some (r, S') → ∀ k n : Nat, zN S' 61 ≤ zN S 61 + k → zN S' 62 ≤ zN S 62 + n → w_X11_face_126 Q Y  a0 x1 x3 x4 o6 σ k n := by
  intro D σ S a0 x1 x3 x4 o6 r6 h L0 X0 A0 A6 hp k n hk hn
  unfold f_X11_face_126 at hp
  unfold w_X11_face_126
  intro o70 ho70
  obtain ⟨b70, p70, B70⟩ := h.arr 1100 9 rfl A0 ho70
  refine ⟨b70, p70, ?_⟩
  obtain ⟨v_1, hp⟩ := mix_some hp
  refine ⟨by rw [h.aln 1100 9 rfl B70]; exact v_1, ?_⟩
  intro o73 ho73
  have C73 := h.ael 1100 9 rfl B70 v_1
  rw [← ho73] at C73
  obtain ⟨b73, p73, B73⟩ := C73.so rfl
  refine ⟨b73, p73, ?_⟩
  intro s75 es75
  obtain ⟨S75, z75, L75, hp⟩ := mst_some hp
  have h75 := h.wR (show rF 902 9 3 = true from rfl) B73 A6 es75
  rw [z75] at h75
  have L0 := L0.tr L75
  have hk := bup hk (L75 61)
  have hn := bup hn (L75 62)
  have A0_s75 := A0.up L75 (DX.rf _ _)
  intro o76 ho76
  obtain ⟨b76, p76, B76⟩ := h75.arr 1100 9 rfl A0_s75 ho76
  refine ⟨b76, p76, ?_⟩
  obtain ⟨v_2, hp⟩ := mix_some hp
  refine ⟨by rw [h75.aln 1100 9 rfl B76]; exact v_2, ?_⟩
  intro o79 ho79
  have C79 := h75.ael 1100 9 rfl B76 v_2
  rw [← ho79] at C79
  obtain ⟨b79, p79, B79⟩ := C79.so rfl
  refine ⟨b79, p79, ?_⟩
  intro s81 es81
  obtain ⟨S81, z81, L81, hp⟩ := mst_some hp
  have h81 := h75.wI (rfl : 903 / 100 = 9) (by decide) (by decide) B79 es81
  rw [z81] at h81
  have L0 := L0.tr L81
  have hk := bup hk (L81 61)
  have hn := bup hn (L81 62)
  have A0_s81 := A0_s75.up L81 (DX.rf _ _)
  intro o82 ho82
  obtain ⟨b82, p82, B82⟩ := h81.arr 1100 9 rfl A0_s81 ho82
  refine ⟨b82, p82, ?_⟩
  obtain ⟨v_3, hp⟩ := mix_some hp
  refine ⟨by rw [h81.aln 1100 9 rfl B82]; exact v_3, ?_⟩
  intro o85 ho85
  have C85 := h81.ael 1100 9 rfl B82 v_3
  rw [← ho85] at C85
  obtain ⟨b85, p85, B85⟩ := C85.so rfl
  refine ⟨b85, p85, ?_⟩
  intro s87 es87
  obtain ⟨S87, z87, L87, hp⟩ := mst_some hp
  have h87 := h81.wI (rfl : 904 / 100 = 9) (by decide) (by decide) B85 es87
  rw [z87] at h87
  have L0 := L0.tr L87
  have hk := bup hk (L87 61)
  have hn := bup hn (L87 62)
  exact hq _ _ _ h87 L0 X0 hp
set_option maxRecDepth 100000 in
set_option maxHeartbeats 1000000 in
theorem q_X11_face_86 {D0 : Nat → Nat → Nat} {S0 S' : Ss} {r : Nat × Int32} {Q : St → Prop} (hq : ∀ D σ S, RC D σ S → zle S0 S → DX S0 D0 D → (mret (0, 0)).1 S = some (r, S') → Q σ) {Y : Nat → St → Prop} (hy : ∀ D σ S u, RC D σ S → zle S0 S → DX S0 D0 D → (mthr u).1 S = some (r, S') → ¬ u = 0 → Y u σ) : ∀ (D : Nat → Nat → Nat) (σ : St) (S : Ss) (a0 : Nat) (x1 : Int32) (x3 : Int32) (x4 : Int32) (os0 : Option Nat) (rs0 : Option Nat), RC D σ S → zle S0 S → DX S0 D0 D → AT D S 11 0 a0 → ATo D S 3 rs0 os0 → (f_X11_face_86 x1 x3 x4 rs0).1 S = some (r, S') → ∀ k n : Nat, zN S' 61 ≤ zN S 61 + k → zN S' 62 ≤ zN S 62 + n → w_X11_face_86 Q Y  a0 x1 x3 x4 os0 σ k n := by
  intro D σ S a0 x1 x3 x4 os0 rs0 h L0 X0 A0 As0 hp k n hk hn
  unfold f_X11_face_86 at hp
  unfold w_X11_face_86
  obtain ⟨x65, S66, e66, L66, hp⟩ := mb_some hp
  refine q_X11_isUsed h A0 e66 (fun D66 s66 h66 X66 => ?_)
  have hk := bup hk (L66 61)
  have hn := bup hn (L66 62)
  have X0 := X0.tr L0 X66
  have L0 := L0.tr L66
  replace hp := mrd_some hp
  refine ⟨fun c => ?_, fun c => ?_⟩
  · replace hp := mif_f hp c
    have hb := mthr_b hp hk hn
    exact ⟨hb.1, hb.2, hy _ _ _ _ h66 L0 X0 hp (by decide)⟩
  · replace hp := mif_t hp c
    have As0_s66 := As0.up L66 X66
    refine ⟨fun c => ?_, fun a69 c => ?_⟩
    · replace hp := mcase_n hp (As0_s66.no c)
      have A0_s66 := A0.up L66 X66
      exact q_X11_face_126 hq hy  _ _ _ _ _ _ _ _ _ h66 L0 X0 A0_s66 ATo.nn hp _ _ hk hn
    · obtain ⟨i69, e69, B69⟩ := As0_s66.sa c
      replace hp := mcase_s hp e69
      have A0_s66 := A0.up L66 X66
      intro o88 ho88
      obtain ⟨b88, p88, B88⟩ := h66.arr 1100 9 rfl A0_s66 ho88
      refine ⟨b88, p88, ?_⟩
      obtain ⟨v_1, hp⟩ := mix_some hp
      refine ⟨by rw [h66.aln 1100 9 rfl B88]; exact v_1, ?_⟩
      intro o91 ho91
      have C91 := h66.ael 1100 9 rfl B88 v_1
      rw [← ho91] at C91
      obtain ⟨b91, p91, B91⟩ := C91.so rfl
      refine ⟨b91, p91, ?_⟩
      refine ⟨fun c => ?_, fun c => ?_⟩
      · rw [h66.int 301 3 rfl (by decide) B69, h66.int 900 9 rfl (by decide) B91] at c
        replace hp := mif_t hp c
        exact q_X11_face_126 hq hy  _ _ _ _ _ _ _ _ _ h66 L0 X0 A0_s66 (B69.sm) hp _ _ hk hn
      · rw [h66.int 301 3 rfl (by decide) B69, h66.int 900 9 rfl (by decide) B91] at c
        replace hp := mif_f hp c
        have hb := mthr_b hp hk hn
        exact ⟨hb.1, hb.2, hy _ _ _ _ h66 L0 X0 hp (by decide)⟩
set_option maxRecDepth 100000 in
set_option maxHeartbeats 1000000 in
theorem q_X11_face_38 {D0 : Nat → Nat → Nat} {S0 S' : Ss} {r : Nat × Int32} {Q : St → Prop} (hq : ∀ D σ S, RC D σ S → zle S0 S → DX S0 D0 D → (mret (0, 0)).1 S = some (r, S') → Q σ) {Y : Nat → St → Prop} (hy : ∀ D σ S u, RC D σ S → zle S0 S → DX S0 D0 D → (mthr u).1 S = some (r, S') → ¬ u = 0 → Y u σ) : ∀ (D : Nat → Nat → Nat) (σ : St) (S : Ss) (a0 : Nat) (x1 : Int32) (x2 : Int32) (x3 : Int32) (x4 : Int32) (xs0 : Int32), RC D σ S → zle S0 S → DX S0 D0 D → AT D S 11 0 a0 → (f_X11_face_38 x1 x2 x3 x4 xs0).1 S = some (r, S') → ∀ k n : Nat, zN S' 61 ≤ zN S 61 + k → zN S' 62 ≤ zN S 62 + n → w_X11_face_38 Q Y  a0 x1 x2 x3 x4 xs0 σ k n := by
  intro D σ S a0 x1 x2 x3 x4 xs0 h L0 X0 A0 hp k n hk hn
  unfold f_X11_face_38 at hp
  unfold w_X11_face_38
  obtain ⟨x56, S57, e57, L57, hp⟩ := mb_some hp
  refine q_X11_isWithin h  e57 (fun D57 s57 h57 X57 => ?_)
  have hk := bup hk (L57 61)
  have hn := bup hn (L57 62)
  have X0 := X0.tr L0 X57
  have L0 := L0.tr L57
  refine ⟨fun c => ?_, fun c => ?_⟩
  · replace hp := mif_t hp c
    have hb := mthr_b hp hk hn
    exact ⟨hb.1, hb.2, hy _ _ _ _ h57 L0 X0 hp (by decide)⟩
  · replace hp := mif_f hp c
    obtain ⟨x59, S60, e60, L60, hp⟩ := mb_some hp
    refine q_X11_isWithin h57  e60 (fun D60 s60 h60 X60 => ?_)
    have hk := bup hk (L60 61)
    have hn := bup hn (L60 62)
    have X0 := X0.tr L0 X60
    have L0 := L0.tr L60
    refine ⟨fun c => ?_, fun c => ?_⟩
    · replace hp := mif_f hp c
      obtain ⟨x62, S63, e63, L63, hp⟩ := mb_some hp
      refine q_X11_isItem h60  e63 (fun D63 s63 h63 X63 => ?_)
      have hk := bup hk (L63 61)
      have hn := bup hn (L63 62)
      have X0 := X0.tr L0 X63
      have L0 := L0.tr L63
      refine ⟨fun c => ?_, fun c => ?_⟩
      · replace hp := mif_t hp c
        have A0_s57 := A0.up L57 X57
        have A0_s60 := A0_s57.up L60 X60
        have A0_s63 := A0_s60.up L63 X63
        exact q_X11_face_86 hq hy  _ _ _ _ _ _ _ _ _ h63 L0 X0 A0_s63 ATo.nn hp _ _ hk hn
      · replace hp := mif_f hp c
        have A0_s57 := A0.up L57 X57
        have A0_s60 := A0_s57.up L60 X60
        have A0_s63 := A0_s60.up L63 X63
        intro o94 ho94
        obtain ⟨b94, p94, B94⟩ := h63.arr 1101 3 rfl A0_s63 ho94
        refine ⟨b94, p94, ?_⟩
        obtain ⟨v_1, hp⟩ := mix_some hp
        refine ⟨by rw [h63.aln 1101 3 rfl B94]; exact v_1, ?_⟩
        intro o97 ho97
        have C97 := h63.ael 1101 3 rfl B94 v_1
        rw [← ho97] at C97
        obtain ⟨b97, p97, B97⟩ := C97.so rfl
        exact q_X11_face_86 hq hy  _ _ _ _ _ _ _ _ _ h63 L0 X0 A0_s63 (ato_k p97 B97) hp _ _ hk hn
    · replace hp := mif_t hp c
      have hb := mthr_b hp hk hn
      exact ⟨hb.1, hb.2, hy _ _ _ _ h60 L0 X0 hp (by decide)⟩
set_option maxRecDepth 100000 in
set_option maxHeartbeats 1000000 in
theorem q_X11_face_27 {D0 : Nat → Nat → Nat} {S0 S' : Ss} {r : Nat × Int32} {Q : St → Prop} (hq : ∀ D σ S, RC D σ S → zle S0 S → DX S0 D0 D → (mret (0, 0)).1 S = some (r, S') → Q σ) {Y : Nat → St → Prop} (hy : ∀ D σ S u, RC D σ S → zle S0 S → DX S0 D0 D → (mthr u).1 S = some (r, S') → ¬ u = 0 → Y u σ) : ∀ (D : Nat → Nat → Nat) (σ : St) (S : Ss) (a0 : Nat) (x1 : Int32) (x2 : Int32) (x3 : Int32) (x4 : Int32), RC D σ S → zle S0 S → DX S0 D0 D → AT D S 11 0 a0 → (f_X11_face_27 x1 x2 x3 x4).1 S = some (r, S') → ∀ k n : Nat, zN S' 61 ≤ zN S 61 + k → zN S' 62 ≤ zN S 62 + n → w_X11_face_27 Q Y  a0 x1 x2 x3 x4 σ k n := by
  intro D σ S a0 x1 x2 x3 x4 h L0 X0 A0 hp k n hk hn
  unfold f_X11_face_27 at hp
  unfold w_X11_face_27
  refine ⟨fun c => ?_, fun c => ?_⟩
  · replace hp := mif_f hp c
    exact q_X11_face_38 hq hy  _ _ _ _ _ _ _ _ _ h L0 X0 A0 hp _ _ hk hn
  · replace hp := mif_t hp c
    exact q_X11_face_38 hq hy  _ _ _ _ _ _ _ _ _ h L0 X0 A0 hp _ _ hk hn
set_option maxRecDepth 100000 in
set_option maxHeartbeats 1000000 in
theorem q_X11_face {D : Nat → Nat → Nat} {σ : St} {S S' : Ss} {a0 : Nat} {x1 : Int32} {x2 : Int32} {x3 : Int32} {x4 : Int32} {r : Nat × Int32} (h : RC D σ S) (A0 : AT D S 11 0 a0) (hp : (f_X11_face x1 x2 x3 x4).1 S = some (r, S')) {k n : Nat} (hk : zN S' 61 ≤ zN S 61 + k) (hn : zN S' 62 ≤ zN S 62 + n) {Q : St → Prop} (hq : ∀ D' τ, RC D' τ S' → DX S D D' → r.1 = 0 → Q τ) {Y : Nat → St → Prop} (hy : ∀ D' τ u, RC D' τ S' → DX S D D' → r.1 = u → ¬ u = 0 → Y u τ) : w_X11_face k n a0 x1 x2 x3 x4 σ Q Y := by
  have L0 := zle.rf S
  have X0 := DX.rf S D
  replace hq : ∀ D9 σ9 S9, RC D9 σ9 S9 → zle S S9 → DX S D D9 → (mret (0, 0)).1 S9 = some (r, S') → Q σ9 := fun D9 σ9 S9 h9 _ X9 e9 => by obtain ⟨rfl, rfl⟩ := mret_some e9; exact hq D9 σ9 h9 X9 rfl
  replace hy : ∀ D9 σ9 S9 u, RC D9 σ9 S9 → zle S S9 → DX S D D9 → (mthr u).1 S9 = some (r, S') → ¬ u = 0 → Y u σ9 := fun D9 σ9 S9 u h9 _ X9 e9 n9 => by cases e9; exact hy D9 σ9 u (h9.cost _ _) X9 rfl n9
  unfold f_X11_face at hp
  unfold w_X11_face
  obtain ⟨x51, S52, e52, L52, hp⟩ := mb_some hp
  refine q_X11_isSlot h  e52 (fun D52 s52 h52 X52 => ?_)
  have hk := bup hk (L52 61)
  have hn := bup hn (L52 62)
  have X0 := X0.tr L0 X52
  have L0 := L0.tr L52
  refine ⟨fun c => ?_, fun c => ?_⟩
  · replace hp := mif_t hp c
    have hb := mthr_b hp hk hn
    exact ⟨hb.1, hb.2, hy _ _ _ _ h52 L0 X0 hp (by decide)⟩
  · replace hp := mif_f hp c
    refine ⟨fun c => ?_, fun c => ?_⟩
    · replace hp := mif_t hp c
      have A0_s52 := A0.up L52 X52
      exact q_X11_face_27 hq hy  _ _ _ _ _ _ _ _ h52 L0 X0 A0_s52 hp _ _ hk hn
    · replace hp := mif_f hp c
      obtain ⟨x98, S99, e99, L99, hp⟩ := mb_some hp
      refine q_X11_isItem h52  e99 (fun D99 s99 h99 X99 => ?_)
      have hk := bup hk (L99 61)
      have hn := bup hn (L99 62)
      have X0 := X0.tr L0 X99
      have L0 := L0.tr L99
      refine ⟨fun c => ?_, fun c => ?_⟩
      · replace hp := mif_f hp c
        have A0_s52 := A0.up L52 X52
        have A0_s99 := A0_s52.up L99 X99
        exact q_X11_face_27 hq hy  _ _ _ _ _ _ _ _ h99 L0 X0 A0_s99 hp _ _ hk hn
      · replace hp := mif_t hp c
        have hb := mthr_b hp hk hn
        exact ⟨hb.1, hb.2, hy _ _ _ _ h99 L0 X0 hp (by decide)⟩
set_option maxRecDepth 100000 in
set_option maxHeartbeats 1000000 in
theorem q_X11_hasLotOrFace_50 {D0 : Nat → Nat → Nat} {S0 S' : Ss} {r : Int32} {Q : Int32 → St → Prop} (hq : ∀ D σ S x, RC D σ S → zle S0 S → DX S0 D0 D → (mret x).1 S = some (r, S') → Q x σ) : ∀ (f : Nat) (D : Nat → Nat → Nat) (σ : St) (S : Ss) (a1 : Nat) (i1 : Nat) (o2 : Option Nat) (x3 : Int32) (x4 : Int32), RC D σ S → zle S0 S → DX S0 D0 D → AT D S 3 i1 a1 → (∃ b, o2 = some b ∧ AT D S 20000 1100 b) → (f_X11_hasLotOrFace_50 f i1 x3 x4).1 S = some (r, S') → w_X11_hasLotOrFace_50 Q  f a1 o2 x3 x4 σ := by
  intro f
  induction f with
  | zero => intro D σ S a1 i1 o2 x3 x4 h L0 X0 A1 A2 hp; cases hp
  | succ f ih =>
    intro D σ S a1 i1 o2 x3 x4 h L0 X0 A1 A2 hp
    unfold f_X11_hasLotOrFace_50 at hp
    unfold w_X11_hasLotOrFace_50
    obtain ⟨b2, p2, A2⟩ := A2
    replace hp := mrd_some hp
    refine ⟨fun c => ?_, fun c => ?_⟩
    · replace hp := mif_t hp c
      exact hq _ _ _ _ h L0 X0 hp
    · replace hp := mif_f hp c
      refine ⟨b2, p2, ?_⟩
      obtain ⟨v_1, hp⟩ := mix_some hp
      refine ⟨by rw [h.aln 1100 9 rfl A2]; exact v_1, ?_⟩
      intro o62 ho62
      have C62 := h.ael 1100 9 rfl A2 v_1
      rw [← ho62] at C62
      obtain ⟨b62, p62, B62⟩ := C62.so rfl
      refine ⟨b62, p62, ?_⟩
      intro o64 ho64
      obtain ⟨r64, e64, hp⟩ := mbo_some hp
      have B64 := h.refr 902 9 3 rfl B62
      rw [← ho64, ← e64] at B64
      refine ⟨fun c => ?_, fun c => ?_⟩
      · replace hp := mif_f hp (fun q => c ((h.oo (by decide) B64 (A1.sm)).mpr q))
        exact ih _ _ _ _ _ _ _ _ h L0 X0 A1 ⟨_, rfl, A2⟩ hp
      · replace hp := mif_t hp ((h.oo (by decide) B64 (A1.sm)).mp c)
        exact hq _ _ _ _ h L0 X0 hp
set_option maxRecDepth 100000 in
set_option maxHeartbeats 1000000 in
theorem q_X11_hasLotOrFace_2 {D0 : Nat → Nat → Nat} {S0 S' : Ss} {r : Int32} {Q : Int32 → St → Prop} (hq : ∀ D σ S x, RC D σ S → zle S0 S → DX S0 D0 D → (mret x).1 S = some (r, S') → Q x σ) : ∀ (f : Nat) (D : Nat → Nat → Nat) (σ : St) (S : Ss) (a0 : Nat) (a1 : Nat) (i1 : Nat) (x2 : Int32), RC D σ S → zle S0 S → DX S0 D0 D → AT D S 11 0 a0 → AT D S 3 i1 a1 → (f_X11_hasLotOrFace_2 f i1 x2).1 S = some (r, S') → w_X11_hasLotOrFace_2 Q  f a0 a1 x2 σ := by
  intro f
  induction f with
  | zero => intro D σ S a0 a1 i1 x2 h L0 X0 A0 A1 hp; cases hp
  | succ f ih =>
    intro D σ S a0 a1 i1 x2 h L0 X0 A0 A1 hp
    unfold f_X11_hasLotOrFace_2 at hp
    unfold w_X11_hasLotOrFace_2
    replace hp := mrd_some hp
    intro o51 ho51
    obtain ⟨b51, p51, B51⟩ := h.lis 1103 11 5 rfl A0 ((lv_o (by decide)).mp A0.1) ho51
    refine ⟨b51, p51, ?_⟩
    obtain ⟨x53, ex53, hp⟩ := mbo_some hp
    refine q_size h (show lF 1103 11 5 = true from rfl) B51 ex53 ?_
    refine ⟨fun c => ?_, fun c => ?_⟩
    · replace hp := mif_t hp c
      intro o56 ho56
      obtain ⟨b56, p56, B56⟩ := h.arr 1100 9 rfl A0 ho56
      refine ⟨b56, p56, ?_⟩
      intro x58 hx58
      rw [h.aln 1100 9 rfl B56] at hx58
      obtain ⟨yx58, ex58, hp⟩ := mbo_some hp
      obtain rfl : yx58 = x58 := ex58.trans hx58.symm
      refine ⟨FU, ?_⟩
      exact q_X11_hasLotOrFace_50 hq FU _ _ _ _ _ _ _ _ h L0 X0 A1 ⟨_, rfl, B56⟩ hp
    · replace hp := mif_f hp c
      intro o67 ho67
      obtain ⟨b67, p67, B67⟩ := h.lis 1103 11 5 rfl A0 ((lv_o (by decide)).mp A0.1) ho67
      refine ⟨b67, p67, ?_⟩
      obtain ⟨i69, e69, hp⟩ := mlget_some hp
      refine q_get h (show lF 1103 11 5 = true from rfl) B67 e69 (fun b69 B69 => ?_)
      refine ⟨b69, rfl, ?_⟩
      refine ⟨h.ob (by decide) B69, ?_⟩
      intro o73 ho73
      obtain ⟨r73, e73, hp⟩ := mbo_some hp
      have B73 := h.refr 501 5 3 rfl B69
      rw [← ho73, ← e73] at B73
      refine ⟨fun c => ?_, fun c => ?_⟩
      · replace hp := mif_f hp (fun q => c ((h.oo (by decide) B73 (A1.sm)).mpr q))
        exact ih _ _ _ _ _ _ _ h L0 X0 A0 A1 hp
      · replace hp := mif_t hp ((h.oo (by decide) B73 (A1.sm)).mp c)
        exact hq _ _ _ _ h L0 X0 hp
set_option maxRecDepth 100000 in
set_option maxHeartbeats 1000000 in
theorem q_X11_hasLotOrFace {D : Nat → Nat → Nat} {σ : St} {S S' : Ss} {a0 : Nat} {a1 : Nat} {i1 : Nat} {r : Int32} (h : RC D σ S) (A0 : AT D S 11 0 a0) (A1 : AT D S 3 i1 a1) (hp : (f_X11_hasLotOrFace i1).1 S = some (r, S')) {Q : Int32 → St → Prop} (hq : ∀ D' τ, RC D' τ S' → DX S D D' → Q r τ) : w_X11_hasLotOrFace a0 a1 σ Q := by
  have L0 := zle.rf S
  have X0 := DX.rf S D
  replace hq : ∀ D9 σ9 S9 x, RC D9 σ9 S9 → zle S S9 → DX S D D9 → (mret x).1 S9 = some (r, S') → Q x σ9 := fun D9 σ9 S9 x h9 _ X9 e9 => by obtain ⟨rfl, rfl⟩ := mret_some e9; exact hq D9 σ9 h9 X9
  unfold f_X11_hasLotOrFace at hp
  unfold w_X11_hasLotOrFace
  refine ⟨FU, ?_⟩
  exact q_X11_hasLotOrFace_2 hq FU _ _ _ _ _ _ _ h L0 X0 A0 A1 hp
set_option maxRecDepth 100000 in
set_option maxHeartbeats 1000000 in
theorem q_X11_held_37 {D0 : Nat → Nat → Nat} {S0 S' : Ss} {r : Nat × Int32} {Q : Int32 → St → Prop} (hq : ∀ D σ S x, RC D σ S → zle S0 S → DX S0 D0 D → (mret (0, x)).1 S = some (r, S') → Q x σ) {Y : Nat → St → Prop} (hy : ∀ D σ S u, RC D σ S → zle S0 S → DX S0 D0 D → (mthr u).1 S = some (r, S') → ¬ u = 0 → Y u σ) : ∀ (f : Nat) (D : Nat → Nat → Nat) (σ : St) (S : Ss) (a0 : Nat) (x1 : Int32) (x2 : Int32) (x3 : Int32) (x4 : Int32) (x5 : Int32), RC D σ S → zle S0 S → DX S0 D0 D → AT D S 11 0 a0 → (f_X11_held_37 f x1 x2 x3 x4 x5).1 S = some (r, S') → ∀ k n : Nat, zN S' 61 ≤ zN S 61 + k → zN S' 62 ≤ zN S 62 + n → w_X11_held_37 Q Y  f a0 x1 x2 x3 x4 x5 σ k n := by
  intro f
  induction f with
  | zero => intro D σ S a0 x1 x2 x3 x4 x5 h L0 X0 A0 hp k n hk hn; cases hp
  | succ f ih =>
    intro D σ S a0 x1 x2 x3 x4 x5 h L0 X0 A0 hp k n hk hn
    unfold f_X11_held_37 at hp
    unfold w_X11_held_37
    replace hp := mrd_some hp
    intro o60 ho60
    obtain ⟨b60, p60, B60⟩ := h.lis 1107 11 2 rfl A0 ((lv_o (by decide)).mp A0.1) ho60
    refine ⟨b60, p60, ?_⟩
    obtain ⟨x62, ex62, hp⟩ := mbo_some hp
    refine q_size h (show lF 1107 11 2 = true from rfl) B60 ex62 ?_
    refine ⟨fun c => ?_, fun c => ?_⟩
    · replace hp := mif_t hp c
      exact hq _ _ _ _ h L0 X0 hp
    · replace hp := mif_f hp c
      intro o65 ho65
      obtain ⟨b65, p65, B65⟩ := h.lis 1107 11 2 rfl A0 ((lv_o (by decide)).mp A0.1) ho65
      refine ⟨b65, p65, ?_⟩
      obtain ⟨i67, e67, hp⟩ := mlget_some hp
      refine q_get h (show lF 1107 11 2 = true from rfl) B65 e67 (fun b67 B67 => ?_)
      refine ⟨b67, rfl, ?_⟩
      refine ⟨h.ob (by decide) B67, ?_⟩
      obtain ⟨x71, S72, e72, L72, hp⟩ := mb_some hp
      refine q_X2_turn h B67 e72 (fun D72 s72 h72 X72 => ?_)
      have hk := bup hk (L72 61)
      have hn := bup hn (L72 62)
      have X0 := X0.tr L0 X72
      have L0 := L0.tr L72
      refine ⟨fun c => ?_, fun c => ?_⟩
      · replace hp := mif_f hp c
        have A0_s72 := A0.up L72 X72
        exact ih _ _ _ _ _ _ _ _ _ h72 L0 X0 A0_s72 hp _ _ hk hn
      · replace hp := mif_t hp c
        have A0_s72 := A0.up L72 X72
        intro o74 ho74
        obtain ⟨b74, p74, B74⟩ := h72.lis 1103 11 5 rfl A0_s72 ((lv_o (by decide)).mp A0_s72.1) ho74
        refine ⟨b74, p74, ?_⟩
        obtain ⟨i76, e76, hp⟩ := mlget_some hp
        refine q_get h72 (show lF 1103 11 5 = true from rfl) B74 e76 (fun b76 B76 => ?_)
        refine ⟨b76, rfl, ?_⟩
        refine ⟨h72.ob (by decide) B76, ?_⟩
        have B67_s72 := B67.up L72 X72
        obtain ⟨x80, S81, e81, L81, hp⟩ := mb_some hp
        refine q_X2_isOf h72 B67_s72 B76 e81 (fun D81 s81 h81 X81 => ?_)
        have hk := bup hk (L81 61)
        have hn := bup hn (L81 62)
        have X0 := X0.tr L0 X81
        have L0 := L0.tr L81
        replace hp := mrd_some hp
        refine ⟨fun c => ?_, fun c => ?_⟩
        · replace hp := mif_t hp c
          have A0_s81 := A0_s72.up L81 X81
          exact ih _ _ _ _ _ _ _ _ _ h81 L0 X0 A0_s81 hp _ _ hk hn
        · replace hp := mif_f hp c
          have B67_s81 := B67_s72.up L81 X81
          intro x83 hx83
          rw [h81.int 204 2 rfl (by decide) B67_s81] at hx83
          obtain ⟨yx83, ex83, hp⟩ := mbo_some hp
          obtain rfl : yx83 = x83 := ex83.trans hx83.symm
          have A0_s81 := A0_s72.up L81 X81
          exact ih _ _ _ _ _ _ _ _ _ h81 L0 X0 A0_s81 hp _ _ hk hn
set_option maxRecDepth 100000 in
set_option maxHeartbeats 1000000 in
theorem q_X11_held {D : Nat → Nat → Nat} {σ : St} {S S' : Ss} {a0 : Nat} {x1 : Int32} {x2 : Int32} {x3 : Int32} {r : Nat × Int32} (h : RC D σ S) (A0 : AT D S 11 0 a0) (hp : (f_X11_held x1 x2 x3).1 S = some (r, S')) {k n : Nat} (hk : zN S' 61 ≤ zN S 61 + k) (hn : zN S' 62 ≤ zN S 62 + n) {Q : Int32 → St → Prop} (hq : ∀ D' τ, RC D' τ S' → DX S D D' → r.1 = 0 → Q r.2 τ) {Y : Nat → St → Prop} (hy : ∀ D' τ u, RC D' τ S' → DX S D D' → r.1 = u → ¬ u = 0 → Y u τ) : w_X11_held k n a0 x1 x2 x3 σ Q Y := by
  have L0 := zle.rf S
  have X0 := DX.rf S D
  replace hq : ∀ D9 σ9 S9 x, RC D9 σ9 S9 → zle S S9 → DX S D D9 → (mret (0, x)).1 S9 = some (r, S') → Q x σ9 := fun D9 σ9 S9 x h9 _ X9 e9 => by obtain ⟨rfl, rfl⟩ := mret_some e9; exact hq D9 σ9 h9 X9 rfl
  replace hy : ∀ D9 σ9 S9 u, RC D9 σ9 S9 → zle S S9 → DX S D D9 → (mthr u).1 S9 = some (r, S') → ¬ u = 0 → Y u σ9 := fun D9 σ9 S9 u h9 _ X9 e9 n9 => by cases e9; exact hy D9 σ9 u (h9.cost _ _) X9 rfl n9
  unfold f_X11_held at hp
  unfold w_X11_held
  obtain ⟨x51, S52, e52, L52, hp⟩ := mb_some hp
  refine q_X11_isOrder h A0 e52 (fun D52 s52 h52 X52 => ?_)
  have hk := bup hk (L52 61)
  have hn := bup hn (L52 62)
  have X0 := X0.tr L0 X52
  have L0 := L0.tr L52
  refine ⟨fun c => ?_, fun c => ?_⟩
  · replace hp := mif_t hp c
    have hb := mthr_b hp hk hn
    exact ⟨hb.1, hb.2, hy _ _ _ _ h52 L0 X0 hp (by decide)⟩
  · replace hp := mif_f hp c
    obtain ⟨x54, S55, e55, L55, hp⟩ := mb_some hp
    refine q_X11_isSlot h52  e55 (fun D55 s55 h55 X55 => ?_)
    have hk := bup hk (L55 61)
    have hn := bup hn (L55 62)
    have X0 := X0.tr L0 X55
    have L0 := L0.tr L55
    refine ⟨fun c => ?_, fun c => ?_⟩
    · replace hp := mif_t hp c
      have hb := mthr_b hp hk hn
      exact ⟨hb.1, hb.2, hy _ _ _ _ h55 L0 X0 hp (by decide)⟩
    · replace hp := mif_f hp c
      have A0_s52 := A0.up L52 X52
      have A0_s55 := A0_s52.up L55 X55
      obtain ⟨x57, S58, e58, L58, hp⟩ := mb_some hp
      refine q_X11_isLot h55 A0_s55 e58 (fun D58 s58 h58 X58 => ?_)
      have hk := bup hk (L58 61)
      have hn := bup hn (L58 62)
      have X0 := X0.tr L0 X58
      have L0 := L0.tr L58
      refine ⟨fun c => ?_, fun c => ?_⟩
      · replace hp := mif_f hp c
        refine ⟨FU, ?_⟩
        have A0_s58 := A0_s55.up L58 X58
        exact q_X11_held_37 hq hy FU _ _ _ _ _ _ _ _ _ h58 L0 X0 A0_s58 hp _ _ hk hn
      · replace hp := mif_t hp c
        have hb := mthr_b hp hk hn
        exact ⟨hb.1, hb.2, hy _ _ _ _ h58 L0 X0 hp (by decide)⟩
