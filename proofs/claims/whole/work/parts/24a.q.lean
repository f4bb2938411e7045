set_option maxRecDepth 100000 in
set_option maxHeartbeats 1000000 in
theorem q_X0_madeAnew_66 {D0 : Nat → Nat → Nat} {S0 S' : Ss} {r : Int32} {Q : Int32 → St → Prop} (hq : ∀ D σ S x, RC D σ S → zle S0 S → DX S0 D0 D → (mret x).1 S = some (r, S') → Q x σ) {K5 : Nat → Int32 → Int32 → Int32 → Int32 → St → Prop} {LK5 : Int32 → Int32 → Int32 → Int32 → MM (Int32)} (hK5 : ∀ (D : Nat → Nat → Nat) (σ : St) (S : Ss) (a0 : Nat) (x1 : Int32) (x2 : Int32) (x3 : Int32) (x4 : Int32), RC D σ S → zle S0 S → DX S0 D0 D → AT D S 0 0 a0 → (LK5 x1 x2 x3 x4).1 S = some (r, S') → K5 a0 x1 x2 x3 x4 σ) : ∀ (D : Nat → Nat → Nat) (σ : St) (S : Ss) (a0 : Nat) (x1 : Int32) (x2 : Int32) (x4 : Int32) (xs0 : Int32) (xs1 : Int32), RC D σ S → zle S0 S → DX S0 D0 D → AT D S 0 0 a0 → (f_X0_madeAnew_66 LK5 x1 x2 x4 xs0 xs1).1 S = some (r, S') → w_X0_madeAnew_66 Q K5 a0 x1 x2 x4 xs0 xs1 σ := by
  intro D σ S a0 x1 x2 x4 xs0 xs1 h L0 X0 A0 hp
  unfold f_X0_madeAnew_66 at hp
  unfold w_X0_madeAnew_66
  replace hp := mrd_some hp
  intro x63 hx63
  obtain ⟨yx63, ex63, hp⟩ := mbo_some hp
  obtain rfl : yx63 = x63 := ex63.trans hx63.symm
  intro o64 ho64
  obtain ⟨b64, p64, m64, l64, q64⟩ := h.mov A0 ho64
  refine ⟨b64, p64, ?_⟩
  obtain ⟨v_1, hp⟩ := mix_some hp
  refine ⟨by rw [l64]; exact v_1, ?_⟩
  refine ⟨fun c => ?_, fun c => ?_⟩
  · rw [q64 _] at c
    replace hp := mif_f hp c
    intro x68 hx68
    obtain ⟨yx68, ex68, hp⟩ := mbo_some hp
    obtain rfl : yx68 = x68 := ex68.trans hx68.symm
    exact hK5 _ _ _ _ _ _ _ _ h L0 X0 A0 hp
  · rw [q64 _] at c
    replace hp := mif_t hp c
    intro o69 ho69
    obtain ⟨b69, p69, m69, l69, q69⟩ := h.mov A0 ho69
    refine ⟨b69, p69, ?_⟩
    obtain ⟨v_2, hp⟩ := mix_some hp
    refine ⟨by rw [l69]; exact v_2, ?_⟩
    intro x72 hx72
    rw [q69 _] at hx72
    obtain ⟨yx72, ex72, hp⟩ := mbo_some hp
    obtain rfl : yx72 = x72 := ex72.trans hx72.symm
    exact hK5 _ _ _ _ _ _ _ _ h L0 X0 A0 hp
set_option maxRecDepth 100000 in
set_option maxHeartbeats 1000000 in
theorem q_X0_madeAnew_5 {D0 : Nat → Nat → Nat} {S0 S' : Ss} {r : Int32} {Q : Int32 → St → Prop} (hq : ∀ D σ S x, RC D σ S → zle S0 S → DX S0 D0 D → (mret x).1 S = some (r, S') → Q x σ) : ∀ (f : Nat) (D : Nat → Nat → Nat) (σ : St) (S : Ss) (a0 : Nat) (x1 : Int32) (x2 : Int32) (x3 : Int32) (x4 : Int32), RC D σ S → zle S0 S → DX S0 D0 D → AT D S 0 0 a0 → (f_X0_madeAnew_5 f x1 x2 x3 x4).1 S = some (r, S') → w_X0_madeAnew_5 Q  f a0 x1 x2 x3 x4 σ := by
  intro f
  induction f with
  | zero => intro D σ S a0 x1 x2 x3 x4 h L0 X0 A0 hp; cases hp
  | succ f ih =>
    intro D σ S a0 x1 x2 x3 x4 h L0 X0 A0 hp
    unfold f_X0_madeAnew_5 at hp
    unfold w_X0_madeAnew_5
    replace hp := mrd_some hp
    refine ⟨fun c => ?_, fun c => ?_⟩
    · rw [h.int 7 0 rfl (by decide) A0] at c
      replace hp := mif_t hp c
      exact hq _ _ _ _ h L0 X0 hp
    · rw [h.int 7 0 rfl (by decide) A0] at c
      replace hp := mif_f hp c
      intro o52 ho52
      obtain ⟨b52, p52, m52, l52, q52⟩ := h.mov A0 ho52
      refine ⟨b52, p52, ?_⟩
      refine ⟨fun c => ?_, fun c => ?_⟩
      · rw [l52] at c
        replace hp := mif_t hp c
        exact hq _ _ _ _ h L0 X0 hp
      · rw [l52] at c
        replace hp := mif_f hp c
        intro o55 ho55
        obtain ⟨b55, p55, m55, l55, q55⟩ := h.mov A0 ho55
        refine ⟨b55, p55, ?_⟩
        obtain ⟨v_1, hp⟩ := mix_some hp
        refine ⟨by rw [l55]; exact v_1, ?_⟩
        refine ⟨fun c => ?_, fun c => ?_⟩
        · rw [q55 _] at c
          replace hp := mif_f hp c
          exact ih _ _ _ _ _ _ _ _ h L0 X0 A0 hp
        · rw [q55 _] at c
          replace hp := mif_t hp c
          intro o59 ho59
          obtain ⟨b59, p59, m59, l59, q59⟩ := h.mov A0 ho59
          refine ⟨b59, p59, ?_⟩
          obtain ⟨v_2, hp⟩ := mix_some hp
          refine ⟨by rw [l59]; exact v_2, ?_⟩
          refine ⟨fun c => ?_, fun c => ?_⟩
          · rw [q59 _] at c
            replace hp := mif_f hp c
            exact q_X0_madeAnew_66 hq ih  _ _ _ _ _ _ _ _ _ h L0 X0 A0 hp
          · rw [q59 _] at c
            replace hp := mif_t hp c
            intro o73 ho73
            obtain ⟨b73, p73, m73, l73, q73⟩ := h.mov A0 ho73
            refine ⟨b73, p73, ?_⟩
            obtain ⟨v_3, hp⟩ := mix_some hp
            refine ⟨by rw [l73]; exact v_3, ?_⟩
            rw [q73 _]
            exact q_X0_madeAnew_66 hq ih  _ _ _ _ _ _ _ _ _ h L0 X0 A0 hp
set_option maxRecDepth 100000 in
set_option maxHeartbeats 1000000 in
theorem q_X0_madeAnew {D : Nat → Nat → Nat} {σ : St} {S S' : Ss} {a0 : Nat} {x1 : Int32} {x2 : Int32} {r : Int32} (h : RC D σ S) (A0 : AT D S 0 0 a0) (hp : (f_X0_madeAnew x1 x2).1 S = some (r, S')) {Q : Int32 → St → Prop} (hq : ∀ D' τ, RC D' τ S' → DX S D D' → Q r τ) : w_X0_madeAnew a0 x1 x2 σ Q := by
  have L0 := zle.rf S
  have X0 := DX.rf S D
  replace hq : ∀ D9 σ9 S9 x, RC D9 σ9 S9 → zle S S9 → DX S D D9 → (mret x).1 S9 = some (r, S') → Q x σ9 := fun D9 σ9 S9 x h9 _ X9 e9 => by obtain ⟨rfl, rfl⟩ := mret_some e9; exact hq D9 σ9 h9 X9
  unfold f_X0_madeAnew at hp
  unfold w_X0_madeAnew
  refine ⟨FU, ?_⟩
  exact q_X0_madeAnew_5 hq FU _ _ _ _ _ _ _ _ h L0 X0 A0 hp
set_option maxRecDepth 100000 in
set_option maxHeartbeats 1000000 in
theorem q_X10_init {D : Nat → Nat → Nat} {σ : St} {S S' : Ss} {a0 : Nat} {i0 : Nat} {x1 : Int32} {x2 : Int32} {a3 : Nat} {i3 : Nat} {x4 : Int32} {r : Unit} (h : RC D σ S) (A0 : AT D S 10 i0 a0) (A3 : AT D S 2 i3 a3) (hp : (f_X10_init i0 x1 x2 i3 x4).1 S = some (r, S')) {Q : St → Prop} (hq : ∀ D' τ, RC D' τ S' → DX S D D' → Q τ) : w_X10_init a0 x1 x2 a3 x4 σ Q := by
  have L0 := zle.rf S
  have X0 := DX.rf S D
  replace hq : ∀ D9 σ9 S9, RC D9 σ9 S9 → zle S S9 → DX S D D9 → (mret ()).1 S9 = some (r, S') → Q σ9 := fun D9 σ9 S9 h9 _ X9 e9 => by obtain ⟨rfl, rfl⟩ := mret_some e9; exact hq D9 σ9 h9 X9
  unfold f_X10_init at hp
  unfold w_X10_init
  intro s51 es51
  obtain ⟨S51, z51, L51, hp⟩ := mst_some hp
  have h51 := h.wI (rfl : 1005 / 100 = 10) (by decide) (by decide) A0 es51
  rw [z51] at h51
  have L0 := L0.tr L51
  intro s52 es52
  have A0_s51 := A0.up L51 (DX.rf _ _)
  obtain ⟨S52, z52, L52, hp⟩ := mst_some hp
  have h52 := h51.wI (rfl : 1000 / 100 = 10) (by decide) (by decide) A0_s51 es52
  rw [z52] at h52
  have L0 := L0.tr L52
  intro s53 es53
  have A0_s52 := A0_s51.up L52 (DX.rf _ _)
  obtain ⟨S53, z53, L53, hp⟩ := mst_some hp
  have h53 := h52.wI (rfl : 1001 / 100 = 10) (by decide) (by decide) A0_s52 es53
  rw [z53] at h53
  have L0 := L0.tr L53
  intro s54 es54
  have A0_s53 := A0_s52.up L53 (DX.rf _ _)
  have A3_s51 := A3.up L51 (DX.rf _ _)
  have A3_s52 := A3_s51.up L52 (DX.rf _ _)
  have A3_s53 := A3_s52.up L53 (DX.rf _ _)
  obtain ⟨S54, z54, L54, hp⟩ := mst_some hp
  have h54 := h53.wR (show rF 1002 10 2 = true from rfl) A0_s53 (A3_s53.sm) es54
  rw [z54] at h54
  have L0 := L0.tr L54
  intro s55 es55
  have A0_s54 := A0_s53.up L54 (DX.rf _ _)
  obtain ⟨S55, z55, L55, hp⟩ := mst_some hp
  have h55 := h54.wI (rfl : 1003 / 100 = 10) (by decide) (by decide) A0_s54 es55
  rw [z55] at h55
  have L0 := L0.tr L55
  replace hp := mrd_some hp
  intro s56 es56
  have A0_s55 := A0_s54.up L55 (DX.rf _ _)
  have A3_s54 := A3_s53.up L54 (DX.rf _ _)
  have A3_s55 := A3_s54.up L55 (DX.rf _ _)
  rw [h55.int 204 2 rfl (by decide) A3_s55] at es56
  obtain ⟨S56, z56, L56, hp⟩ := mst_some hp
  have h56 := h55.wI (rfl : 1004 / 100 = 10) (by decide) (by decide) A0_s55 es56
  rw [z56] at h56
  have L0 := L0.tr L56
  exact hq _ _ _ h56 L0 X0 hp
set_option maxRecDepth 100000 in
set_option maxHeartbeats 1000000 in
theorem q_X10_nextStation {D : Nat → Nat → Nat} {σ : St} {S S' : Ss} {a0 : Nat} {i0 : Nat} {r : Int32} (h : RC D σ S) (A0 : AT D S 10 i0 a0) (hp : (f_X10_nextStation i0).1 S = some (r, S')) {Q : Int32 → St → Prop} (hq : ∀ D' τ, RC D' τ S' → DX S D D' → Q r τ) : w_X10_nextStation a0 σ Q := by
  have L0 := zle.rf S
  have X0 := DX.rf S D
  replace hq : ∀ D9 σ9 S9 x, RC D9 σ9 S9 → zle S S9 → DX S D D9 → (mret x).1 S9 = some (r, S') → Q x σ9 := fun D9 σ9 S9 x h9 _ X9 e9 => by obtain ⟨rfl, rfl⟩ := mret_some e9; exact hq D9 σ9 h9 X9
  unfold f_X10_nextStation at hp
  unfold w_X10_nextStation
  replace hp := mrd_some hp
  refine ⟨fun c => ?_, fun c => ?_⟩
  · rw [h.int 1006 10 rfl (by decide) A0] at c
    replace hp := mif_t hp c
    refine ⟨fun c => ?_, fun c => ?_⟩
    · rw [h.int 1001 10 rfl (by decide) A0] at c
      replace hp := mif_f hp c
      intro o53 ho53
      obtain ⟨r53, e53, hp⟩ := mbo_some hp
      have B53 := h.refr 1002 10 2 rfl A0
      rw [← ho53, ← e53] at B53
      obtain ⟨i54, e54, hp⟩ := mopt_some hp
      obtain ⟨a54, p54, B54⟩ := B53.so e54
      refine ⟨a54, p54, ?_⟩
      rw [h.int 202 2 rfl (by decide) B54]
      exact hq _ _ _ _ h L0 X0 hp
    · rw [h.int 1001 10 rfl (by decide) A0] at c
      replace hp := mif_t hp c
      exact hq _ _ _ _ h L0 X0 hp
  · rw [h.int 1006 10 rfl (by decide) A0] at c
    replace hp := mif_f hp c
    rw [h.int 1003 10 rfl (by decide) A0]
    exact hq _ _ _ _ h L0 X0 hp
set_option maxRecDepth 100000 in
set_option maxHeartbeats 1000000 in
theorem q_X11_bill {D : Nat → Nat → Nat} {σ : St} {S S' : Ss} {a0 : Nat} {r : Int32} (h : RC D σ S) (A0 : AT D S 11 0 a0) (hp : (f_X11_bill ).1 S = some (r, S')) {Q : Int32 → St → Prop} (hq : ∀ D' τ, RC D' τ S' → DX S D D' → Q r τ) : w_X11_bill a0 σ Q := by
  have L0 := zle.rf S
  have X0 := DX.rf S D
  replace hq : ∀ D9 σ9 S9 x, RC D9 σ9 S9 → zle S S9 → DX S D D9 → (mret x).1 S9 = some (r, S') → Q x σ9 := fun D9 σ9 S9 x h9 _ X9 e9 => by obtain ⟨rfl, rfl⟩ := mret_some e9; exact hq D9 σ9 h9 X9
  unfold f_X11_bill at hp
  unfold w_X11_bill
  replace hp := mrd_some hp
  rw [h.int 1118 11 rfl (by decide) A0]
  exact hq _ _ _ _ h L0 X0 hp
set_option maxRecDepth 100000 in
set_option maxHeartbeats 1000000 in
theorem q_X11_isBarred {D : Nat → Nat → Nat} {σ : St} {S S' : Ss} {x0 : Int32} {x1 : Int32} {x2 : Int32} {r : Int32} (h : RC D σ S) (hp : (f_X11_isBarred x0 x1 x2).1 S = some (r, S')) {Q : Int32 → St → Prop} (hq : ∀ D' τ, RC D' τ S' → DX S D D' → Q r τ) : w_X11_isBarred x0 x1 x2 σ Q := by
  have L0 := zle.rf S
  have X0 := DX.rf S D
  replace hq : ∀ D9 σ9 S9 x, RC D9 σ9 S9 → zle S S9 → DX S D D9 → (mret x).1 S9 = some (r, S') → Q x σ9 := fun D9 σ9 S9 x h9 _ X9 e9 => by obtain ⟨rfl, rfl⟩ := mret_some e9; exact hq D9 σ9 h9 X9
  unfold f_X11_isBarred at hp
  unfold w_X11_isBarred
  refine ⟨fun c => ?_, fun c => ?_⟩
  · replace hp := mif_f hp c
    exact hq _ _ _ _ h L0 X0 hp
  · replace hp := mif_t hp c
    exact hq _ _ _ _ h L0 X0 hp
set_option maxRecDepth 100000 in
set_option maxHeartbeats 1000000 in
theorem q_X11_isGoodFor {D : Nat → Nat → Nat} {σ : St} {S S' : Ss} {a0 : Nat} {a1 : Nat} {i1 : Nat} {a2 : Nat} {i2 : Nat} {a3 : Nat} {i3 : Nat} {r : Int32} (h : RC D σ S) (A0 : AT D S 11 0 a0) (A1 : AT D S 7 i1 a1) (A2 : AT D S 3 i2 a2) (A3 : AT D S 5 i3 a3) (hp : (f_X11_isGoodFor i1 i2 i3).1 S = some (r, S')) {Q : Int32 → St → Prop} (hq : ∀ D' τ, RC D' τ S' → DX S D D' → Q r τ) : w_X11_isGoodFor a0 a1 a2 a3 σ Q := by
  have L0 := zle.rf S
  have X0 := DX.rf S D
  replace hq : ∀ D9 σ9 S9 x, RC D9 σ9 S9 → zle S S9 → DX S D D9 → (mret x).1 S9 = some (r, S') → Q x σ9 := fun D9 σ9 S9 x h9 _ X9 e9 => by obtain ⟨rfl, rfl⟩ := mret_some e9; exact hq D9 σ9 h9 X9
  unfold f_X11_isGoodFor at hp
  unfold w_X11_isGoodFor
  replace hp := mrd_some hp
  intro o51 ho51
  obtain ⟨r51, e51, hp⟩ := mbo_some hp
  have B51 := h.refr 501 5 3 rfl A3
  rw [← ho51, ← e51] at B51
  refine ⟨fun c => ?_, fun c => ?_⟩
  · replace hp := mif_f hp (fun q => c ((h.oo (by decide) B51 (A2.sm)).mpr q))
    exact hq _ _ _ _ h L0 X0 hp
  · replace hp := mif_t hp ((h.oo (by decide) B51 (A2.sm)).mp c)
    refine ⟨fun c => ?_, fun c => ?_⟩
    · rw [h.int 503 5 rfl (by decide) A3] at c
      replace hp := mif_f hp c
      exact hq _ _ _ _ h L0 X0 hp
    · rw [h.int 503 5 rfl (by decide) A3] at c
      replace hp := mif_t hp c
      refine ⟨fun c => ?_, fun c => ?_⟩
      · rw [h.int 502 5 rfl (by decide) A3, h.int 1116 11 rfl (by decide) A0, h.int 703 7 rfl (by decide) A1] at c
        replace hp := mif_t hp c
        exact hq _ _ _ _ h L0 X0 hp
      · rw [h.int 502 5 rfl (by decide) A3, h.int 1116 11 rfl (by decide) A0, h.int 703 7 rfl (by decide) A1] at c
        replace hp := mif_f hp c
        exact hq _ _ _ _ h L0 X0 hp
set_option maxRecDepth 100000 in
set_option maxHeartbeats 1000000 in
theorem q_X11_isGroup {D : Nat → Nat → Nat} {σ : St} {S S' : Ss} {x0 : Int32} {r : Int32} (h : RC D σ S) (hp : (f_X11_isGroup x0).1 S = some (r, S')) {Q : Int32 → St → Prop} (hq : ∀ D' τ, RC D' τ S' → DX S D D' → Q r τ) : w_X11_isGroup x0 σ Q := by
  have L0 := zle.rf S
  have X0 := DX.rf S D
  replace hq : ∀ D9 σ9 S9 x, RC D9 σ9 S9 → zle S S9 → DX S D D9 → (mret x).1 S9 = some (r, S') → Q x σ9 := fun D9 σ9 S9 x h9 _ X9 e9 => by obtain ⟨rfl, rfl⟩ := mret_some e9; exact hq D9 σ9 h9 X9
  unfold f_X11_isGroup at hp
  unfold w_X11_isGroup
  refine ⟨fun c => ?_, fun c => ?_⟩
  · replace hp := mif_t hp c
    exact hq _ _ _ _ h L0 X0 hp
  · replace hp := mif_f hp c
    refine ⟨fun c => ?_, fun c => ?_⟩
    · replace hp := mif_t hp c
      exact hq _ _ _ _ h L0 X0 hp
    · replace hp := mif_f hp c
      exact hq _ _ _ _ h L0 X0 hp
set_option maxRecDepth 100000 in
set_option maxHeartbeats 1000000 in
theorem q_X11_isItem {D : Nat → Nat → Nat} {σ : St} {S S' : Ss} {x0 : Int32} {r : Int32} (h : RC D σ S) (hp : (f_X11_isItem x0).1 S = some (r, S')) {Q : Int32 → St → Prop} (hq : ∀ D' τ, RC D' τ S' → DX S D D' → Q r τ) : w_X11_isItem x0 σ Q := by
  have L0 := zle.rf S
  have X0 := DX.rf S D
  replace hq : ∀ D9 σ9 S9 x, RC D9 σ9 S9 → zle S S9 → DX S D D9 → (mret x).1 S9 = some (r, S') → Q x σ9 := fun D9 σ9 S9 x h9 _ X9 e9 => by obtain ⟨rfl, rfl⟩ := mret_some e9; exact hq D9 σ9 h9 X9
  unfold f_X11_isItem at hp
  unfold w_X11_isItem
  refine ⟨fun c => ?_, fun c => ?_⟩
  · replace hp := mif_t hp c
    exact hq _ _ _ _ h L0 X0 hp
  · replace hp := mif_f hp c
    refine ⟨fun c => ?_, fun c => ?_⟩
    · replace hp := mif_t hp c
      exact hq _ _ _ _ h L0 X0 hp
    · replace hp := mif_f hp c
      exact hq _ _ _ _ h L0 X0 hp
set_option maxRecDepth 100000 in
set_option maxHeartbeats 1000000 in
theorem q_X11_isRobot {D : Nat → Nat → Nat} {σ : St} {S S' : Ss} {x0 : Int32} {r : Int32} (h : RC D σ S) (hp : (f_X11_isRobot x0).1 S = some (r, S')) {Q : Int32 → St → Prop} (hq : ∀ D' τ, RC D' τ S' → DX S D D' → Q r τ) : w_X11_isRobot x0 σ Q := by
  have L0 := zle.rf S
  have X0 := DX.rf S D
  replace hq : ∀ D9 σ9 S9 x, RC D9 σ9 S9 → zle S S9 → DX S D D9 → (mret x).1 S9 = some (r, S') → Q x σ9 := fun D9 σ9 S9 x h9 _ X9 e9 => by obtain ⟨rfl, rfl⟩ := mret_some e9; exact hq D9 σ9 h9 X9
  unfold f_X11_isRobot at hp
  unfold w_X11_isRobot
  refine ⟨fun c => ?_, fun c => ?_⟩
  · replace hp := mif_t hp c
    exact hq _ _ _ _ h L0 X0 hp
  · replace hp := mif_f hp c
    refine ⟨fun c => ?_, fun c => ?_⟩
    · replace hp := mif_t hp c
      exact hq _ _ _ _ h L0 X0 hp
    · replace hp := mif_f hp c
      exact hq _ _ _ _ h L0 X0 hp
set_option maxRecDepth 100000 in
set_option maxHeartbeats 1000000 in
theorem q_X11_isSlot {D : Nat → Nat → Nat} {σ : St} {S S' : Ss} {x0 : Int32} {r : Int32} (h : RC D σ S) (hp : (f_X11_isSlot x0).1 S = some (r, S')) {Q : Int32 → St → Prop} (hq : ∀ D' τ, RC D' τ S' → DX S D D' → Q r τ) : w_X11_isSlot x0 σ Q := by
  have L0 := zle.rf S
  have X0 := DX.rf S D
  replace hq : ∀ D9 σ9 S9 x, RC D9 σ9 S9 → zle S S9 → DX S D D9 → (mret x).1 S9 = some (r, S') → Q x σ9 := fun D9 σ9 S9 x h9 _ X9 e9 => by obtain ⟨rfl, rfl⟩ := mret_some e9; exact hq D9 σ9 h9 X9
  unfold f_X11_isSlot at hp
  unfold w_X11_isSlot
  refine ⟨fun c => ?_, fun c => ?_⟩
  · replace hp := mif_t hp c
    exact hq _ _ _ _ h L0 X0 hp
  · replace hp := mif_f hp c
    refine ⟨fun c => ?_, fun c => ?_⟩
    · replace hp := mif_t hp c
      exact hq _ _ _ _ h L0 X0 hp
    · replace hp := mif_f hp c
      exact hq _ _ _ _ h L0 X0 hp
set_option maxRecDepth 100000 in
set_option maxHeartbeats 1000000 in
theorem q_X11_isWithin {D : Nat → Nat → Nat} {σ : St} {S S' : Ss} {x0 : Int32} {x1 : Int32} {x2 : Int32} {r : Int32} (h : RC D σ S) (hp : (f_X11_isWithin x0 x1 x2).1 S = some (r, S')) {Q : Int32 → St → Prop} (hq : ∀ D' τ, RC D' τ S' → DX S D D' → Q r τ) : w_X11_isWithin x0 x1 x2 σ Q := by
  have L0 := zle.rf S
  have X0 := DX.rf S D
  replace hq : ∀ D9 σ9 S9 x, RC D9 σ9 S9 → zle S S9 → DX S D D9 → (mret x).1 S9 = some (r, S') → Q x σ9 := fun D9 σ9 S9 x h9 _ X9 e9 => by obtain ⟨rfl, rfl⟩ := mret_some e9; exact hq D9 σ9 h9 X9
  unfold f_X11_isWithin at hp
  unfold w_X11_isWithin
  refine ⟨fun c => ?_, fun c => ?_⟩
  · replace hp := mif_t hp c
    exact hq _ _ _ _ h L0 X0 hp
  · replace hp := mif_f hp c
    refine ⟨fun c => ?_, fun c => ?_⟩
    · replace hp := mif_t hp c
      exact hq _ _ _ _ h L0 X0 hp
    · replace hp := mif_f hp c
      exact hq _ _ _ _ h L0 X0 hp
set_option maxRecDepth 100000 in
set_option maxHeartbeats 1000000 in
theorem q_X11_robotIn_11 {D0 : Nat → Nat → Nat} {S0 S' : Ss} {r : Option Nat} {Q : Option Nat → St → Prop} (hq : ∀ D σ S x o, RC D σ S → zle S0 S → DX S0 D0 D → ATo D S 8 x o → (mret x).1 S = some (r, S') → Q o σ) : ∀ (f : Nat) (D : Nat → Nat → Nat) (σ : St) (S : Ss) (x1 : Int32) (o2 : Option Nat) (x3 : Int32) (x4 : Int32), RC D σ S → zle S0 S → DX S0 D0 D → (∃ b, o2 = some b ∧ AT D S 20000 1102 b) → (f_X11_robotIn_11 f x1 x3 x4).1 S = some (r, S') → w_X11_robotIn_11 Q  f x1 o2 x3 x4 σ := by
  intro f
  induction f with
  | zero => intro D σ S x1 o2 x3 x4 h L0 X0 A2 hp; cases hp
  | succ f ih =>
    intro D σ S x1 o2 x3 x4 h L0 X0 A2 hp
    unfold f_X11_robotIn_11 at hp
    unfold w_X11_robotIn_11
    obtain ⟨b2, p2, A2⟩ := A2
    replace hp := mrd_some hp
    refine ⟨fun c => ?_, fun c => ?_⟩
    · replace hp := mif_t hp c
      exact hq _ _ _ _ _ h L0 X0 ATo.nn hp
    · replace hp := mif_f hp c
      refine ⟨b2, p2, ?_⟩
      obtain ⟨v_1, hp⟩ := mix_some hp
      refine ⟨by rw [h.aln 1102 8 rfl A2]; exact v_1, ?_⟩
      intro o57 ho57
      have C57 := h.ael 1102 8 rfl A2 v_1
      rw [← ho57] at C57
      obtain ⟨b57, p57, B57⟩ := C57.so rfl
      refine ⟨b57, p57, ?_⟩
      refine ⟨fun c => ?_, fun c => ?_⟩
      · rw [h.int 801 8 rfl (by decide) B57] at c
        replace hp := mif_f hp c
        exact ih _ _ _ _ _ _ _ h L0 X0 ⟨_, rfl, A2⟩ hp
      · rw [h.int 801 8 rfl (by decide) B57] at c
        replace hp := mif_t hp c
        exact hq _ _ _ _ _ h L0 X0 (B57.sm) hp
set_option maxRecDepth 100000 in
set_option maxHeartbeats 1000000 in
theorem q_X11_robotIn {D : Nat → Nat → Nat} {σ : St} {S S' : Ss} {a0 : Nat} {x1 : Int32} {r : Option Nat} (h : RC D σ S) (A0 : AT D S 11 0 a0) (hp : (f_X11_robotIn x1).1 S = some (r, S')) {Q : Option Nat → St → Prop} (hq : ∀ D' τ o, RC D' τ S' → DX S D D' → ATo D' S' 8 r o → Q o τ) : w_X11_robotIn a0 x1 σ Q := by
  have L0 := zle.rf S
  have X0 := DX.rf S D
  replace hq : ∀ D9 σ9 S9 x o, RC D9 σ9 S9 → zle S S9 → DX S D D9 → ATo D9 S9 8 x o → (mret x).1 S9 = some (r, S') → Q o σ9 := fun D9 σ9 S9 x o h9 _ X9 B9 e9 => by obtain ⟨rfl, rfl⟩ := mret_some e9; exact hq D9 σ9 o h9 X9 B9
  unfold f_X11_robotIn at hp
  unfold w_X11_robotIn
  intro o51 ho51
  obtain ⟨b51, p51, B51⟩ := h.arr 1102 8 rfl A0 ho51
  refine ⟨b51, p51, ?_⟩
  intro x53 hx53
  rw [h.aln 1102 8 rfl B51] at hx53
  obtain ⟨yx53, ex53, hp⟩ := mbo_some hp
  obtain rfl : yx53 = x53 := ex53.trans hx53.symm
  refine ⟨FU, ?_⟩
  exact q_X11_robotIn_11 hq FU _ _ _ _ _ _ _ h L0 X0 ⟨_, rfl, B51⟩ hp
set_option maxRecDepth 100000 in
set_option maxHeartbeats 1000000 in
theorem q_X11_standstills {D : Nat → Nat → Nat} {σ : St} {S S' : Ss} {a0 : Nat} {r : Int32} (h : RC D σ S) (A0 : AT D S 11 0 a0) (hp : (f_X11_standstills ).1 S = some (r, S')) {Q : Int32 → St → Prop} (hq : ∀ D' τ, RC D' τ S' → DX S D D' → Q r τ) : w_X11_standstills a0 σ Q := by
  have L0 := zle.rf S
  have X0 := DX.rf S D
  replace hq : ∀ D9 σ9 S9 x, RC D9 σ9 S9 → zle S S9 → DX S D D9 → (mret x).1 S9 = some (r, S') → Q x σ9 := fun D9 σ9 S9 x h9 _ X9 e9 => by obtain ⟨rfl, rfl⟩ := mret_some e9; exact hq D9 σ9 h9 X9
  unfold f_X11_standstills at hp
  unfold w_X11_standstills
  replace hp := mrd_some hp
  rw [h.int 1117 11 rfl (by decide) A0]
  exact hq _ _ _ _ h L0 X0 hp
set_option maxRecDepth 100000 in
set_option maxHeartbeats 1000000 in
theorem q_X2_init {D : Nat → Nat → Nat} {σ : St} {S S' : Ss} {a0 : Nat} {i0 : Nat} {o1 : Option Nat} {r1 : Option Nat} {o2 : Option Nat} {r2 : Option Nat} {x3 : Int32} {a4 : Nat} {i4 : Nat} {x5 : Int32} {r : Unit} (h : RC D σ S) (A0 : AT D S 2 i0 a0) (A1 : ATo D S 7 r1 o1) (A2 : ATo D S 4 r2 o2) (A4 : AT D S 5 i4 a4) (hp : (f_X2_init i0 r1 r2 x3 i4 x5).1 S = some (r, S')) {Q : St → Prop} (hq : ∀ D' τ, RC D' τ S' → DX S D D' → Q τ) : w_X2_init a0 o1 o2 x3 a4 x5 σ Q := by
  have L0 := zle.rf S
  have X0 := DX.rf S D
  replace hq : ∀ D9 σ9 S9, RC D9 σ9 S9 → zle S S9 → DX S D D9 → (mret ()).1 S9 = some (r, S') → Q σ9 := fun D9 σ9 S9 h9 _ X9 e9 => by obtain ⟨rfl, rfl⟩ := mret_some e9; exact hq D9 σ9 h9 X9
  unfold f_X2_init at hp
  unfold w_X2_init
  intro s51 es51
  obtain ⟨S51, z51, L51, hp⟩ := mst_some hp
  have h51 := h.wR (show rF 200 2 7 = true from rfl) A0 A1 es51
  rw [z51] at h51
  have L0 := L0.tr L51
  intro s52 es52
  have A0_s51 := A0.up L51 (DX.rf _ _)
  have A2_s51 := A2.up L51 (DX.rf _ _)
  obtain ⟨S52, z52, L52, hp⟩ := mst_some hp
  have h52 := h51.wR (show rF 201 2 4 = true from rfl) A0_s51 A2_s51 es52
  rw [z52] at h52
  have L0 := L0.tr L52
  intro s53 es53
  have A0_s52 := A0_s51.up L52 (DX.rf _ _)
  obtain ⟨S53, z53, L53, hp⟩ := mst_some hp
  have h53 := h52.wI (rfl : 202 / 100 = 2) (by decide) (by decide) A0_s52 es53
  rw [z53] at h53
  have L0 := L0.tr L53
  intro s54 es54
  have A0_s53 := A0_s52.up L53 (DX.rf _ _)
  have A4_s51 := A4.up L51 (DX.rf _ _)
  have A4_s52 := A4_s51.up L52 (DX.rf _ _)
  have A4_s53 := A4_s52.up L53 (DX.rf _ _)
  obtain ⟨S54, z54, L54, hp⟩ := mst_some hp
  have h54 := h53.wR (show rF 203 2 5 = true from rfl) A0_s53 (A4_s53.sm) es54
  rw [z54] at h54
  have L0 := L0.tr L54
  intro s55 es55
  have A0_s54 := A0_s53.up L54 (DX.rf _ _)
  obtain ⟨S55, z55, L55, hp⟩ := mst_some hp
  have h55 := h54.wI (rfl : 204 / 100 = 2) (by decide) (by decide) A0_s54 es55
  rw [z55] at h55
  have L0 := L0.tr L55
  exact hq _ _ _ h55 L0 X0 hp
set_option maxRecDepth 100000 in
set_option maxHeartbeats 1000000 in
theorem q_X2_isOf {D : Nat → Nat → Nat} {σ : St} {S S' : Ss} {a0 : Nat} {i0 : Nat} {x1 : Int32} {a2 : Nat} {i2 : Nat} {r : Int32} (h : RC D σ S) (A0 : AT D S 2 i0 a0) (A2 : AT D S 5 i2 a2) (hp : (f_X2_isOf i0 x1 i2).1 S = some (r, S')) {Q : Int32 → St → Prop} (hq : ∀ D' τ, RC D' τ S' → DX S D D' → Q r τ) : w_X2_isOf a0 x1 a2 σ Q := by
  have L0 := zle.rf S
  have X0 := DX.rf S D
  replace hq : ∀ D9 σ9 S9 x, RC D9 σ9 S9 → zle S S9 → DX S D D9 → (mret x).1 S9 = some (r, S') → Q x σ9 := fun D9 σ9 S9 x h9 _ X9 e9 => by obtain ⟨rfl, rfl⟩ := mret_some e9; exact hq D9 σ9 h9 X9
  unfold f_X2_isOf at hp
  unfold w_X2_isOf
  replace hp := mrd_some hp
  refine ⟨fun c => ?_, fun c => ?_⟩
  · rw [h.int 202 2 rfl (by decide) A0] at c
    replace hp := mif_f hp c
    exact hq _ _ _ _ h L0 X0 hp
  · rw [h.int 202 2 rfl (by decide) A0] at c
    replace hp := mif_t hp c
    intro o52 ho52
    obtain ⟨r52, e52, hp⟩ := mbo_some hp
    have B52 := h.refr 203 2 5 rfl A0
    rw [← ho52, ← e52] at B52
    refine ⟨fun c => ?_, fun c => ?_⟩
    · replace hp := mif_f hp (fun q => c ((h.oo (by decide) B52 (A2.sm)).mpr q))
      exact hq _ _ _ _ h L0 X0 hp
    · replace hp := mif_t hp ((h.oo (by decide) B52 (A2.sm)).mp c)
      exact hq _ _ _ _ h L0 X0 hp
set_option maxRecDepth 100000 in
set_option maxHeartbeats 1000000 in
theorem q_X2_turn {D : Nat → Nat → Nat} {σ : St} {S S' : Ss} {a0 : Nat} {i0 : Nat} {r : Int32} (h : RC D σ S) (A0 : AT D S 2 i0 a0) (hp : (f_X2_turn i0).1 S = some (r, S')) {Q : Int32 → St → Prop} (hq : ∀ D' τ, RC D' τ S' → DX S D D' → Q r τ) : w_X2_turn a0 σ Q := by
  have L0 := zle.rf S
  have X0 := DX.rf S D
  replace hq : ∀ D9 σ9 S9 x, RC D9 σ9 S9 → zle S S9 → DX S D D9 → (mret x).1 S9 = some (r, S') → Q x σ9 := fun D9 σ9 S9 x h9 _ X9 e9 => by obtain ⟨rfl, rfl⟩ := mret_some e9; exact hq D9 σ9 h9 X9
  unfold f_X2_turn at hp
  unfold w_X2_turn
  replace hp := mrd_some hp
  intro o51 ho51
  obtain ⟨r51, e51, hp⟩ := mbo_some hp
  have B51 := h.refr 200 2 7 rfl A0
  rw [← ho51, ← e51] at B51
  refine ⟨fun c => ?_, fun a53 c => ?_⟩
  · replace hp := mcase_n hp (B51.no c)
    exact hq _ _ _ _ h L0 X0 hp
  · obtain ⟨i53, e53, B53⟩ := B51.sa c
    replace hp := mcase_s hp e53
    intro o54 ho54
    obtain ⟨r54, e54, hp⟩ := mbo_some hp
    have B54 := h.refr 200 2 7 rfl A0
    rw [← ho54, ← e54] at B54
    obtain ⟨i55, e55, hp⟩ := mopt_some hp
    obtain ⟨a55, p55, B55⟩ := B54.so e55
    refine ⟨a55, p55, ?_⟩
    rw [h.int 700 7 rfl (by decide) B55]
    exact hq _ _ _ _ h L0 X0 hp
set_option maxRecDepth 100000 in
set_option maxHeartbeats 1000000 in
theorem q_X4_init {D : Nat → Nat → Nat} {σ : St} {S S' : Ss} {a0 : Nat} {i0 : Nat} {a1 : Nat} {i1 : Nat} {x2 : Int32} {r : Unit} (h : RC D σ S) (A0 : AT D S 4 i0 a0) (A1 : AT D S 3 i1 a1) (hp : (f_X4_init i0 i1 x2).1 S = some (r, S')) {Q : St → Prop} (hq : ∀ D' τ, RC D' τ S' → DX S D D' → Q τ) : w_X4_init a0 a1 x2 σ Q := by
  have L0 := zle.rf S
  have X0 := DX.rf S D
  replace hq : ∀ D9 σ9 S9, RC D9 σ9 S9 → zle S S9 → DX S D D9 → (mret ()).1 S9 = some (r, S') → Q σ9 := fun D9 σ9 S9 h9 _ X9 e9 => by obtain ⟨rfl, rfl⟩ := mret_some e9; exact hq D9 σ9 h9 X9
  unfold f_X4_init at hp
  unfold w_X4_init
  intro s51 es51
  obtain ⟨S51, z51, L51, hp⟩ := mst_some hp
  have h51 := h.wR (show rF 400 4 3 = true from rfl) A0 (A1.sm) es51
  rw [z51] at h51
  have L0 := L0.tr L51
  intro s52 es52
  have A0_s51 := A0.up L51 (DX.rf _ _)
  obtain ⟨S52, z52, L52, hp⟩ := mst_some hp
  have h52 := h51.wI (rfl : 401 / 100 = 4) (by decide) (by decide) A0_s51 es52
  rw [z52] at h52
  have L0 := L0.tr L52
  exact hq _ _ _ h52 L0 X0 hp
set_option maxRecDepth 100000 in
set_option maxHeartbeats 1000000 in
theorem q_X4_lacking {D : Nat → Nat → Nat} {σ : St} {S S' : Ss} {a0 : Nat} {i0 : Nat} {r : Int32} (h : RC D σ S) (A0 : AT D S 4 i0 a0) (hp : (f_X4_lacking i0).1 S = some (r, S')) {Q : Int32 → St → Prop} (hq : ∀ D' τ, RC D' τ S' → DX S D D' → Q r τ) : w_X4_lacking a0 σ Q := by
  have L0 := zle.rf S
  have X0 := DX.rf S D
  replace hq : ∀ D9 σ9 S9 x, RC D9 σ9 S9 → zle S S9 → DX S D D9 → (mret x).1 S9 = some (r, S') → Q x σ9 := fun D9 σ9 S9 x h9 _ X9 e9 => by obtain ⟨rfl, rfl⟩ := mret_some e9; exact hq D9 σ9 h9 X9
  unfold f_X4_lacking at hp
  unfold w_X4_lacking
  replace hp := mrd_some hp
  rw [h.int 401 4 rfl (by decide) A0, h.int 402 4 rfl (by decide) A0, h.int 403 4 rfl (by decide) A0]
  exact hq _ _ _ _ h L0 X0 hp
set_option maxRecDepth 100000 in
set_option maxHeartbeats 1000000 in
theorem q_X5_init {D : Nat → Nat → Nat} {σ : St} {S S' : Ss} {a0 : Nat} {i0 : Nat} {x1 : Int32} {a2 : Nat} {i2 : Nat} {x3 : Int32} {r : Unit} (h : RC D σ S) (A0 : AT D S 5 i0 a0) (A2 : AT D S 3 i2 a2) (hp : (f_X5_init i0 x1 i2 x3).1 S = some (r, S')) {Q : St → Prop} (hq : ∀ D' τ, RC D' τ S' → DX S D D' → Q τ) : w_X5_init a0 x1 a2 x3 σ Q := by
  have L0 := zle.rf S
  have X0 := DX.rf S D
  replace hq : ∀ D9 σ9 S9, RC D9 σ9 S9 → zle S S9 → DX S D D9 → (mret ()).1 S9 = some (r, S') → Q σ9 := fun D9 σ9 S9 h9 _ X9 e9 => by obtain ⟨rfl, rfl⟩ := mret_some e9; exact hq D9 σ9 h9 X9
  unfold f_X5_init at hp
  unfold w_X5_init
  intro s51 es51
  obtain ⟨S51, z51, L51, hp⟩ := mst_some hp
  have h51 := h.wI (rfl : 500 / 100 = 5) (by decide) (by decide) A0 es51
  rw [z51] at h51
  have L0 := L0.tr L51
  intro s52 es52
  have A0_s51 := A0.up L51 (DX.rf _ _)
  have A2_s51 := A2.up L51 (DX.rf _ _)
  obtain ⟨S52, z52, L52, hp⟩ := mst_some hp
  have h52 := h51.wR (show rF 501 5 3 = true from rfl) A0_s51 (A2_s51.sm) es52
  rw [z52] at h52
  have L0 := L0.tr L52
  intro s53 es53
  have A0_s52 := A0_s51.up L52 (DX.rf _ _)
  obtain ⟨S53, z53, L53, hp⟩ := mst_some hp
  have h53 := h52.wI (rfl : 502 / 100 = 5) (by decide) (by decide) A0_s52 es53
  rw [z53] at h53
  have L0 := L0.tr L53
  exact hq _ _ _ h53 L0 X0 hp
set_option maxRecDepth 100000 in
set_option maxHeartbeats 1000000 in
theorem q_X6_init {D : Nat → Nat → Nat} {σ : St} {S S' : Ss} {a0 : Nat} {i0 : Nat} {a1 : Nat} {i1 : Nat} {x2 : Int32} {r : Unit} (h : RC D σ S) (A0 : AT D S 6 i0 a0) (A1 : AT D S 3 i1 a1) (hp : (f_X6_init i0 i1 x2).1 S = some (r, S')) {Q : St → Prop} (hq : ∀ D' τ, RC D' τ S' → DX S D D' → Q τ) : w_X6_init a0 a1 x2 σ Q := by
  have L0 := zle.rf S
  have X0 := DX.rf S D
  replace hq : ∀ D9 σ9 S9, RC D9 σ9 S9 → zle S S9 → DX S D D9 → (mret ()).1 S9 = some (r, S') → Q σ9 := fun D9 σ9 S9 h9 _ X9 e9 => by obtain ⟨rfl, rfl⟩ := mret_some e9; exact hq D9 σ9 h9 X9
  unfold f_X6_init at hp
  unfold w_X6_init
  intro s51 es51
  obtain ⟨S51, z51, L51, hp⟩ := mst_some hp
  have h51 := h.wR (show rF 600 6 3 = true from rfl) A0 (A1.sm) es51
  rw [z51] at h51
  have L0 := L0.tr L51
  intro s52 es52
  have A0_s51 := A0.up L51 (DX.rf _ _)
  obtain ⟨S52, z52, L52, hp⟩ := mst_some hp
  have h52 := h51.wI (rfl : 601 / 100 = 6) (by decide) (by decide) A0_s51 es52
  rw [z52] at h52
  have L0 := L0.tr L52
  exact hq _ _ _ h52 L0 X0 hp
set_option maxRecDepth 100000 in
set_option maxHeartbeats 1000000 in
theorem q_X8_goToFront {D : Nat → Nat → Nat} {σ : St} {S S' : Ss} {a0 : Nat} {i0 : Nat} {r : Unit} (h : RC D σ S) (A0 : AT D S 8 i0 a0) (hp : (f_X8_goToFront i0).1 S = some (r, S')) {Q : St → Prop} (hq : ∀ D' τ, RC D' τ S' → DX S D D' → Q τ) : w_X8_goToFront a0 σ Q := by
  have L0 := zle.rf S
  have X0 := DX.rf S D
  replace hq : ∀ D9 σ9 S9, RC D9 σ9 S9 → zle S S9 → DX S D D9 → (mret ()).1 S9 = some (r, S') → Q σ9 := fun D9 σ9 S9 h9 _ X9 e9 => by obtain ⟨rfl, rfl⟩ := mret_some e9; exact hq D9 σ9 h9 X9
  unfold f_X8_goToFront at hp
  unfold w_X8_goToFront
  intro s51 es51
  obtain ⟨S51, z51, L51, hp⟩ := mst_some hp
  have h51 := h.wI (rfl : 801 / 100 = 8) (by decide) (by decide) A0 es51
  rw [z51] at h51
  have L0 := L0.tr L51
  intro s52 es52
  have A0_s51 := A0.up L51 (DX.rf _ _)
  obtain ⟨S52, z52, L52, hp⟩ := mst_some hp
  have h52 := h51.wI (rfl : 802 / 100 = 8) (by decide) (by decide) A0_s51 es52
  rw [z52] at h52
  have L0 := L0.tr L52
  exact hq _ _ _ h52 L0 X0 hp
set_option maxRecDepth 100000 in
set_option maxHeartbeats 1000000 in
theorem q_X0_freePieces {D : Nat → Nat → Nat} {σ : St} {S S' : Ss} {a0 : Nat} {x1 : Int32} {x2 : Int32} {r : Int32} (h : RC D σ S) (A0 : AT D S 0 0 a0) (hp : (f_X0_freePieces x1 x2).1 S = some (r, S')) {Q : Int32 → St → Prop} (hq : ∀ D' τ, RC D' τ S' → DX S D D' → Q r τ) : w_X0_freePieces a0 x1 x2 σ Q := by
  have L0 := zle.rf S
  have X0 := DX.rf S D
  replace hq : ∀ D9 σ9 S9 x, RC D9 σ9 S9 → zle S S9 → DX S D D9 → (mret x).1 S9 = some (r, S') → Q x σ9 := fun D9 σ9 S9 x h9 _ X9 e9 => by obtain ⟨rfl, rfl⟩ := mret_some e9; exact hq D9 σ9 h9 X9
  unfold f_X0_freePieces at hp
  unfold w_X0_freePieces
  replace hp := mrd_some hp
  intro o51 ho51
  obtain ⟨b51, p51, B51⟩ := h.cel 0 0 rfl A0 ho51
  refine ⟨b51, p51, ?_⟩
  obtain ⟨x53, ex53, hp⟩ := mbo_some hp
  refine q_at h (show cF 0 0 = true from rfl) B51 ex53 ?_
  intro o55 ho55
  obtain ⟨b55, p55, B55⟩ := h.cel 3 0 rfl A0 ho55
  refine ⟨b55, p55, ?_⟩
  obtain ⟨x57, ex57, hp⟩ := mbo_some hp
  refine q_at h (show cF 3 0 = true from rfl) B55 ex57 ?_
  exact hq _ _ _ _ h L0 X0 hp
set_option maxRecDepth 100000 in
set_option maxHeartbeats 1000000 in
theorem q_X0_hasOrAwaits {D : Nat → Nat → Nat} {σ : St} {S S' : Ss} {a0 : Nat} {x1 : Int32} {x2 : Int32} {r : Int32} (h : RC D σ S) (A0 : AT D S 0 0 a0) (hp : (f_X0_hasOrAwaits x1 x2).1 S = some (r, S')) {Q : Int32 → St → Prop} (hq : ∀ D' τ, RC D' τ S' → DX S D D' → Q r τ) : w_X0_hasOrAwaits a0 x1 x2 σ Q := by
  have L0 := zle.rf S
  have X0 := DX.rf S D
  replace hq : ∀ D9 σ9 S9 x, RC D9 σ9 S9 → zle S S9 → DX S D D9 → (mret x).1 S9 = some (r, S') → Q x σ9 := fun D9 σ9 S9 x h9 _ X9 e9 => by obtain ⟨rfl, rfl⟩ := mret_some e9; exact hq D9 σ9 h9 X9
  unfold f_X0_hasOrAwaits at hp
  unfold w_X0_hasOrAwaits
  replace hp := mrd_some hp
  intro o51 ho51
  obtain ⟨b51, p51, B51⟩ := h.cel 1 0 rfl A0 ho51
  refine ⟨b51, p51, ?_⟩
  obtain ⟨x53, ex53, hp⟩ := mbo_some hp
  refine q_at h (show cF 1 0 = true from rfl) B51 ex53 ?_
  refine ⟨fun c => ?_, fun c => ?_⟩
  · replace hp := mif_t hp c
    exact hq _ _ _ _ h L0 X0 hp
  · replace hp := mif_f hp c
    intro o56 ho56
    obtain ⟨b56, p56, B56⟩ := h.cel 4 0 rfl A0 ho56
    refine ⟨b56, p56, ?_⟩
    obtain ⟨x58, ex58, hp⟩ := mbo_some hp
    refine q_at h (show cF 4 0 = true from rfl) B56 ex58 ?_
    refine ⟨fun c => ?_, fun c => ?_⟩
    · replace hp := mif_t hp c
      exact hq _ _ _ _ h L0 X0 hp
    · replace hp := mif_f hp c
      exact hq _ _ _ _ h L0 X0 hp
set_option maxRecDepth 100000 in
set_option maxHeartbeats 1000000 in
theorem q_X0_isDoubted {D : Nat → Nat → Nat} {σ : St} {S S' : Ss} {a0 : Nat} {x1 : Int32} {x2 : Int32} {x3 : Int32} {r : Int32} (h : RC D σ S) (A0 : AT D S 0 0 a0) (hp : (f_X0_isDoubted x1 x2 x3).1 S = some (r, S')) {Q : Int32 → St → Prop} (hq : ∀ D' τ, RC D' τ S' → DX S D D' → Q r τ) : w_X0_isDoubted a0 x1 x2 x3 σ Q := by
  have L0 := zle.rf S
  have X0 := DX.rf S D
  replace hq : ∀ D9 σ9 S9 x, RC D9 σ9 S9 → zle S S9 → DX S D D9 → (mret x).1 S9 = some (r, S') → Q x σ9 := fun D9 σ9 S9 x h9 _ X9 e9 => by obtain ⟨rfl, rfl⟩ := mret_some e9; exact hq D9 σ9 h9 X9
  unfold f_X0_isDoubted at hp
  unfold w_X0_isDoubted
  replace hp := mrd_some hp
  intro o51 ho51
  obtain ⟨b51, p51, B51⟩ := h.cel 5 0 rfl A0 ho51
  refine ⟨b51, p51, ?_⟩
  obtain ⟨x53, ex53, hp⟩ := mbo_some hp
  refine q_at h (show cF 5 0 = true from rfl) B51 ex53 ?_
  refine ⟨fun c => ?_, fun c => ?_⟩
  · replace hp := mif_f hp c
    exact hq _ _ _ _ h L0 X0 hp
  · replace hp := mif_t hp c
    exact hq _ _ _ _ h L0 X0 hp
set_option maxRecDepth 100000 in
set_option maxHeartbeats 1000000 in
theorem q_X0_keepDoubt_26 {D0 : Nat → Nat → Nat} {S0 S' : Ss} {r : Unit} {Q : St → Prop} (hq : ∀ D σ S, RC D σ S → zle S0 S → DX S0 D0 D → (mret ()).1 S = some (r, S') → Q σ) : ∀ (D : Nat → Nat → Nat) (σ : St) (S : Ss) (os0 : Option Nat) (xs1 : Int32) (xs2 : Int32) (xs3 : Int32), RC D σ S → zle S0 S → DX S0 D0 D → (∃ b, os0 = some b ∧ AT D S 30000 5 b) → (f_X0_keepDoubt_26 xs1 xs2 xs3).1 S = some (r, S') → w_X0_keepDoubt_26 Q  os0 xs1 xs2 xs3 σ := by
  intro D σ S os0 xs1 xs2 xs3 h L0 X0 As0 hp
  unfold f_X0_keepDoubt_26 at hp
  unfold w_X0_keepDoubt_26
  obtain ⟨bs0, ps0, As0⟩ := As0
  refine ⟨bs0, ps0, ?_⟩
  obtain ⟨S59, z59, L59, hp⟩ := mst_some hp
  refine q_put h (show cF 5 0 = true from rfl) As0 (fun s59 h59 => ?_)
  rw [z59] at h59
  have L0 := L0.tr L59
  exact hq _ _ _ h59 L0 X0 hp
set_option maxRecDepth 100000 in
set_option maxHeartbeats 1000000 in
theorem q_X0_keepDoubt {D : Nat → Nat → Nat} {σ : St} {S S' : Ss} {a0 : Nat} {x1 : Int32} {x2 : Int32} {x3 : Int32} {r : Unit} (h : RC D σ S) (A0 : AT D S 0 0 a0) (hp : (f_X0_keepDoubt x1 x2 x3).1 S = some (r, S')) {Q : St → Prop} (hq : ∀ D' τ, RC D' τ S' → DX S D D' → Q τ) : w_X0_keepDoubt a0 x1 x2 x3 σ Q := by
  have L0 := zle.rf S
  have X0 := DX.rf S D
  replace hq : ∀ D9 σ9 S9, RC D9 σ9 S9 → zle S S9 → DX S D D9 → (mret ()).1 S9 = some (r, S') → Q σ9 := fun D9 σ9 S9 h9 _ X9 e9 => by obtain ⟨rfl, rfl⟩ := mret_some e9; exact hq D9 σ9 h9 X9
  unfold f_X0_keepDoubt at hp
  unfold w_X0_keepDoubt
  replace hp := mrd_some hp
  intro o51 ho51
  obtain ⟨b51, p51, B51⟩ := h.cel 5 0 rfl A0 ho51
  intro o52 ho52
  obtain ⟨b52, p52, B52⟩ := h.cel 0 0 rfl A0 ho52
  refine ⟨b52, p52, ?_⟩
  obtain ⟨x54, ex54, hp⟩ := mbo_some hp
  refine q_at h (show cF 0 0 = true from rfl) B52 ex54 ?_
  refine ⟨fun c => ?_, fun c => ?_⟩
  · replace hp := mif_f hp c
    exact q_X0_keepDoubt_26 hq  _ _ _ _ _ _ _ h L0 X0 ⟨_, p51, B51⟩ hp
  · replace hp := mif_t hp c
    exact q_X0_keepDoubt_26 hq  _ _ _ _ _ _ _ h L0 X0 ⟨_, p51, B51⟩ hp
set_option maxRecDepth 100000 in
set_option maxHeartbeats 1000000 in
theorem q_X0_note_47 {D0 : Nat → Nat → Nat} {S0 S' : Ss} {r : Unit} {Q : St → Prop} (hq : ∀ D σ S, RC D σ S → zle S0 S → DX S0 D0 D → (mret ()).1 S = some (r, S') → Q σ) : ∀ (D : Nat → Nat → Nat) (σ : St) (S : Ss) (a0 : Nat) (x1 : Int32) (x2 : Int32) (x3 : Int32) (x4 : Int32) (x5 : Int32), RC D σ S → zle S0 S → DX S0 D0 D → AT D S 0 0 a0 → (f_X0_note_47 x1 x2 x3 x4 x5).1 S = some (r, S') → ∀ k n : Nat, zN S' 61 ≤ zN S 61 + k → zN S' 62 ≤ zN S 62 + n → w_X0_note_47 Q  a0 x1 x2 x3 x4 x5 σ k n := by
  intro D σ S a0 x1 x2 x3 x4 x5 h L0 X0 A0 hp k n hk hn
  unfold f_X0_note_47 at hp
  unfold w_X0_note_47
  replace hp := mrd_some hp
  refine ⟨fun c => ?_, fun c => ?_⟩
  · rw [h.int 7 0 rfl (by decide) A0] at c
    replace hp := mif_t hp c
    exact hq _ _ _ h L0 X0 hp
  · rw [h.int 7 0 rfl (by decide) A0] at c
    replace hp := mif_f hp c
    intro o56 ho56
    obtain ⟨b56, p56, m56, l56, q56⟩ := h.mov A0 ho56
    refine ⟨b56, p56, ?_⟩
    refine ⟨fun c => ?_, fun c => ?_⟩
    · rw [l56] at c
      replace hp := mif_t hp c
      exact hq _ _ _ h L0 X0 hp
    · rw [l56] at c
      replace hp := mif_f hp c
      intro o59 ho59
      obtain ⟨b59, p59, m59, l59, q59⟩ := h.mov A0 ho59
      refine ⟨b59, p59, ?_⟩
      obtain ⟨v_1, hp⟩ := mix_some hp
      refine ⟨by rw [h.int 7 0 rfl (by decide) A0, l59]; exact v_1, ?_⟩
      intro s62 es62
      rw [h.int 7 0 rfl (by decide) A0] at es62
      obtain ⟨S62, z62, L62, hp⟩ := mst_some hp
      have h62 : RC _ _ (pMv (zA S 7 0) x1 S) := h.setM m59 es62
      rw [z62] at h62
      have L0 := L0.tr L62
      have hk := bup hk (L62 61)
      have hn := bup hn (L62 62)
      replace hp := mrd_some hp
      have A0_s62 := A0.up L62 (DX.rf _ _)
      intro o63 ho63
      obtain ⟨b63, p63, m63, l63, q63⟩ := h62.mov A0_s62 ho63
      refine ⟨b63, p63, ?_⟩
      obtain ⟨v_2, hp⟩ := mix_some hp
      refine ⟨by rw [h62.int 7 0 rfl (by decide) A0_s62, l63]; exact v_2, ?_⟩
      intro s66 es66
      rw [h62.int 7 0 rfl (by decide) A0_s62] at es66
      obtain ⟨S66, z66, L66, hp⟩ := mst_some hp
      have h66 : RC _ _ (pMv ((zA S62 7 0) + 1) x2 S62) := h62.setM m63 es66
      rw [z66] at h66
      have L0 := L0.tr L66
      have hk := bup hk (L66 61)
      have hn := bup hn (L66 62)
      replace hp := mrd_some hp
      have A0_s66 := A0_s62.up L66 (DX.rf _ _)
      intro o67 ho67
      obtain ⟨b67, p67, m67, l67, q67⟩ := h66.mov A0_s66 ho67
      refine ⟨b67, p67, ?_⟩
      obtain ⟨v_3, hp⟩ := mix_some hp
      refine ⟨by rw [h66.int 7 0 rfl (by decide) A0_s66, l67]; exact v_3, ?_⟩
      intro s70 es70
      rw [h66.int 7 0 rfl (by decide) A0_s66] at es70
      obtain ⟨S70, z70, L70, hp⟩ := mst_some hp
      have h70 : RC _ _ (pMv ((zA S66 7 0) + 2) x3 S66) := h66.setM m67 es70
      rw [z70] at h70
      have L0 := L0.tr L70
      have hk := bup hk (L70 61)
      have hn := bup hn (L70 62)
      replace hp := mrd_some hp
      have A0_s70 := A0_s66.up L70 (DX.rf _ _)
      intro o71 ho71
      obtain ⟨b71, p71, m71, l71, q71⟩ := h70.mov A0_s70 ho71
      refine ⟨b71, p71, ?_⟩
      obtain ⟨v_4, hp⟩ := mix_some hp
      refine ⟨by rw [h70.int 7 0 rfl (by decide) A0_s70, l71]; exact v_4, ?_⟩
      intro s74 es74
      rw [h70.int 7 0 rfl (by decide) A0_s70] at es74
      obtain ⟨S74, z74, L74, hp⟩ := mst_some hp
      have h74 : RC _ _ (pMv ((zA S70 7 0) + 3) x4 S70) := h70.setM m71 es74
      rw [z74] at h74
      have L0 := L0.tr L74
      have hk := bup hk (L74 61)
      have hn := bup hn (L74 62)
      intro s75 es75
      have A0_s74 := A0_s70.up L74 (DX.rf _ _)
      obtain ⟨S75, z75, L75, hp⟩ := mst_some hp
      have h75 := h74.wI (rfl : 7 / 100 = 0) (by decide) (by decide) A0_s74 es75
      rw [z75] at h75
      have L0 := L0.tr L75
      have hk := bup hk (L75 61)
      have hn := bup hn (L75 62)
      exact hq _ _ _ h75 L0 X0 hp
set_option maxRecDepth 100000 in
set_option maxHeartbeats 1000000 in
theorem q_X0_note {D : Nat → Nat → Nat} {σ : St} {S S' : Ss} {a0 : Nat} {x1 : Int32} {x2 : Int32} {x3 : Int32} {x4 : Int32} {r : Unit} (h : RC D σ S) (A0 : AT D S 0 0 a0) (hp : (f_X0_note x1 x2 x3 x4).1 S = some (r, S')) {k n : Nat} (hk : zN S' 61 ≤ zN S 61 + k) (hn : zN S' 62 ≤ zN S 62 + n) {Q : St → Prop} (hq : ∀ D' τ, RC D' τ S' → DX S D D' → Q τ) : w_X0_note k n a0 x1 x2 x3 x4 σ Q := by
  have L0 := zle.rf S
  have X0 := DX.rf S D
  replace hq : ∀ D9 σ9 S9, RC D9 σ9 S9 → zle S S9 → DX S D D9 → (mret ()).1 S9 = some (r, S') → Q σ9 := fun D9 σ9 S9 h9 _ X9 e9 => by obtain ⟨rfl, rfl⟩ := mret_some e9; exact hq D9 σ9 h9 X9
  unfold f_X0_note at hp
  unfold w_X0_note
  replace hp := mrd_some hp
  intro x51 hx51
  rw [h.int 7 0 rfl (by decide) A0] at hx51
  obtain ⟨yx51, ex51, hp⟩ := mbo_some hp
  obtain rfl : yx51 = x51 := ex51.trans hx51.symm
  intro o52 ho52
  obtain ⟨b52, p52, m52, l52, q52⟩ := h.mov A0 ho52
  refine ⟨b52, p52, ?_⟩
  refine ⟨fun c => ?_, fun c => ?_⟩
  · rw [l52] at c
    replace hp := mif_t hp c
    exact q_X0_note_47 hq  _ _ _ _ _ _ _ _ _ h L0 X0 A0 hp _ _ hk hn
  · rw [l52] at c
    replace hp := mif_f hp c
    intro o76 ho76
    obtain ⟨b76, p76, m76, l76, q76⟩ := h.mov A0 ho76
    refine ⟨b76, p76, ?_⟩
    refine ⟨fun c => ?_, fun c => ?_⟩
    · rw [l76] at c
      replace hp := mif_t hp c
      exact q_X0_note_47 hq  _ _ _ _ _ _ _ _ _ h L0 X0 A0 hp _ _ hk hn
    · rw [l76] at c
      replace hp := mif_f hp c
      intro o79 ho79
      obtain ⟨b79, p79, m79, l79, q79⟩ := h.mov A0 ho79
      intro o80 ho80
      obtain ⟨b80, p80, m80, l80, q80⟩ := h.mov A0 ho80
      refine ⟨b80, p80, ?_⟩
      refine ⟨b79, p79, ?_⟩
      obtain ⟨u91, v91, S91, z91, L91, hp⟩ := mgrow_some hp
      have M91 := mle hp
      obtain ⟨k85, k87, f1, f2, hk⟩ := bud (L91 61) (M91 61) hk
      obtain ⟨n86, n88, g1, g2, hn⟩ := bud (L91 62) (M91 62) hn
      rw [l80]
      refine ⟨k85, n86, k87, n88, f1, g1, q_grow h m79 u91 v91 (by rw [z91]; exact f2) (by rw [z91]; exact g2) A0 (fun s91 h91 => ?_)⟩
      rw [z91] at h91
      have L0 := L0.tr L91
      have A0_s91 := A0.up L91 (DX.rf _ _)
      exact q_X0_note_47 hq  _ _ _ _ _ _ _ _ _ h91 L0 X0 A0_s91 hp _ _ hk hn
set_option maxRecDepth 100000 in
set_option maxHeartbeats 1000000 in
theorem q_X11_bar_74 {D0 : Nat → Nat → Nat} {S0 S' : Ss} {r : Nat × Int32} {Q : Int32 → St → Prop} (hq : ∀ D σ S x, RC D σ S → zle S0 S → DX S0 D0 D → (mret (0, x)).1 S = some (r, S') → Q x σ) {Y : Nat → St → Prop} (hy : ∀ D σ S u, RC D σ S → zle S0 S → DX S0 D0 D → (mthr u).1 S = some (r, S') → ¬ u = 0 → Y u σ) : ∀ (D : Nat → Nat → Nat) (σ : St) (S : Ss) (x4 : Int32) (as0 : Nat) (xs1 : Int32), RC D σ S → zle S0 S → DX S0 D0 D → AT D S 11 0 as0 → (f_X11_bar_74 x4 xs1).1 S = some (r, S') → ∀ k n : Nat, zN S' 61 ≤ zN S 61 + k → zN S' 62 ≤ zN S 62 + n → w_X11_bar_74 Q Y  x4 as0 xs1 σ k n := by
  intro D σ S x4 as0 xs1 h L0 X0 As0 hp k n hk hn
  unfold f_X11_bar_74 at hp
  unfold w_X11_bar_74
  intro s61 es61
  obtain ⟨S61, z61, L61, hp⟩ := mst_some hp
  have h61 := h.wI (rfl : 1115 / 100 = 11) (by decide) (by decide) As0 es61
  rw [z61] at h61
  have L0 := L0.tr L61
  have hk := bup hk (L61 61)
  have hn := bup hn (L61 62)
  obtain ⟨g_1, hp⟩ := mgd_some hp
  refine ⟨of_decide_eq_true g_1, ?_⟩
  exact hq _ _ _ _ h61 L0 X0 hp
set_option maxRecDepth 100000 in
set_option maxHeartbeats 1000000 in
theorem q_X11_bar {D : Nat → Nat → Nat} {σ : St} {S S' : Ss} {a0 : Nat} {x1 : Int32} {x2 : Int32} {x3 : Int32} {r : Nat × Int32} (h : RC D σ S) (A0 : AT D S 11 0 a0) (hp : (f_X11_bar x1 x2 x3).1 S = some (r, S')) {k n : Nat} (hk : zN S' 61 ≤ zN S 61 + k) (hn : zN S' 62 ≤ zN S 62 + n) {Q : Int32 → St → Prop} (hq : ∀ D' τ, RC D' τ S' → DX S D D' → r.1 = 0 → Q r.2 τ) {Y : Nat → St → Prop} (hy : ∀ D' τ u, RC D' τ S' → DX S D D' → r.1 = u → ¬ u = 0 → Y u τ) : w_X11_bar k n a0 x1 x2 x3 σ Q Y := by
  have L0 := zle.rf S
  have X0 := DX.rf S D
  replace hq : ∀ D9 σ9 S9 x, RC D9 σ9 S9 → zle S S9 → DX S D D9 → (mret (0, x)).1 S9 = some (r, S') → Q x σ9 := fun D9 σ9 S9 x h9 _ X9 e9 => by obtain ⟨rfl, rfl⟩ := mret_some e9; exact hq D9 σ9 h9 X9 rfl
  replace hy : ∀ D9 σ9 S9 u, RC D9 σ9 S9 → zle S S9 → DX S D D9 → (mthr u).1 S9 = some (r, S') → ¬ u = 0 → Y u σ9 := fun D9 σ9 S9 u h9 _ X9 e9 n9 => by cases e9; exact hy D9 σ9 u (h9.cost _ _) X9 rfl n9
  unfold f_X11_bar at hp
  unfold w_X11_bar
  obtain ⟨x51, S52, e52, L52, hp⟩ := mb_some hp
  refine q_X11_isGroup h  e52 (fun D52 s52 h52 X52 => ?_)
  have hk := bup hk (L52 61)
  have hn := bup hn (L52 62)
  have X0 := X0.tr L0 X52
  have L0 := L0.tr L52
  refine ⟨fun c => ?_, fun c => ?_⟩
  · replace hp := mif_t hp c
    have hb := mthr_b hp hk hn
    exact ⟨hb.1, hb.2, hy _ _ _ _ h52 L0 X0 hp (by decide)⟩
  · replace hp := mif_f hp c
    obtain ⟨x54, S55, e55, L55, hp⟩ := mb_some hp
    refine q_X11_isGroup h52  e55 (fun D55 s55 h55 X55 => ?_)
    have hk := bup hk (L55 61)
    have hn := bup hn (L55 62)
    have X0 := X0.tr L0 X55
    have L0 := L0.tr L55
    replace hp := mrd_some hp
    refine ⟨fun c => ?_, fun c => ?_⟩
    · replace hp := mif_f hp c
      have A0_s52 := A0.up L52 X52
      have A0_s55 := A0_s52.up L55 X55
      rw [h55.int 1115 11 rfl (by decide) A0_s55]
      obtain ⟨x57, S58, e58, L58, hp⟩ := mb_some hp
      refine q_X11_isBarred h55  e58 (fun D58 s58 h58 X58 => ?_)
      have hk := bup hk (L58 61)
      have hn := bup hn (L58 62)
      have X0 := X0.tr L0 X58
      have L0 := L0.tr L58
      replace hp := mrd_some hp
      intro x59 hx59
      obtain ⟨yx59, ex59, hp⟩ := mbo_some hp
      obtain rfl : yx59 = x59 := ex59.trans hx59.symm
      refine ⟨fun c => ?_, fun c => ?_⟩
      · replace hp := mif_t hp c
        have A0_s58 := A0_s55.up L58 X58
        rw [h58.int 1115 11 rfl (by decide) A0_s58]
        exact q_X11_bar_74 hq hy  _ _ _ _ _ _ h58 L0 X0 A0_s58 hp _ _ hk hn
      · replace hp := mif_f hp c
        have A0_s58 := A0_s55.up L58 X58
        rw [h58.int 1115 11 rfl (by decide) A0_s58]
        exact q_X11_bar_74 hq hy  _ _ _ _ _ _ h58 L0 X0 A0_s58 hp _ _ hk hn
    · replace hp := mif_t hp c
      have hb := mthr_b hp hk hn
      exact ⟨hb.1, hb.2, hy _ _ _ _ h55 L0 X0 hp (by decide)⟩
set_option maxRecDepth 100000 in
set_option maxHeartbeats 1000000 in
theorem q_X11_fitsIntoBox_94 {D0 : Nat → Nat → Nat} {S0 S' : Ss} {r : Int32} {Q : Int32 → St → Prop} (hq : ∀ D σ S x, RC D σ S → zle S0 S → DX S0 D0 D → (mret x).1 S = some (r, S') → Q x σ) {K54 : Nat → Int32 → Nat → Int32 → Option Nat → Int32 → Int32 → St → Prop} {LK54 : Int32 → Nat → Int32 → Int32 → Int32 → MM (Int32)} (hK54 : ∀ (D : Nat → Nat → Nat) (σ : St) (S : Ss) (a0 : Nat) (x1 : Int32) (a2 : Nat) (i2 : Nat) (x3 : Int32) (o4 : Option Nat) (x5 : Int32) (x6 : Int32), RC D σ S → zle S0 S → DX S0 D0 D → AT D S 11 0 a0 → AT D S 3 i2 a2 → (∃ b, o4 = some b ∧ AT D S 20000 1101 b) → (LK54 x1 i2 x3 x5 x6).1 S = some (r, S') → K54 a0 x1 a2 x3 o4 x5 x6 σ) : ∀ (D : Nat → Nat → Nat) (σ : St) (S : Ss) (a0 : Nat) (x1 : Int32) (a2 : Nat) (i2 : Nat) (x3 : Int32) (o4 : Option Nat) (x5 : Int32) (x6 : Int32) (o7 : Option Nat) (r7 : Option Nat) (xs0 : Int32), RC D σ S → zle S0 S → DX S0 D0 D → AT D S 11 0 a0 → AT D S 3 i2 a2 → (∃ b, o4 = some b ∧ AT D S 20000 1101 b) → ATo D S 3 r7 o7 → (f_X11_fitsIntoBox_94 LK54 x1 i2 x3 x5 x6 r7 xs0).1 S = some (r, S') → w_X11_fitsIntoBox_94 Q K54 a0 x1 a2 x3 o4 x5 x6 o7 xs0 σ := by
  intro D σ S a0 x1 a2 i2 x3 o4 x5 x6 o7 r7 xs0 h L0 X0 A0 A2 A4 A7 hp
  unfold f_X11_fitsIntoBox_94 at hp
  unfold w_X11_fitsIntoBox_94
  obtain ⟨b4, p4, A4⟩ := A4
  replace hp := mrd_some hp
  refine ⟨fun c => ?_, fun c => ?_⟩
  · replace hp := mif_t hp c
    exact hK54 _ _ _ _ _ _ _ _ _ _ _ h L0 X0 A0 A2 ⟨_, p4, A4⟩ hp
  · replace hp := mif_f hp c
    refine ⟨fun c => ?_, fun c => ?_⟩
    · replace hp := mif_t hp ((h.oo (by decide) A7 (A2.sm)).mp c)
      exact hK54 _ _ _ _ _ _ _ _ _ _ _ h L0 X0 A0 A2 ⟨_, p4, A4⟩ hp
    · replace hp := mif_f hp (fun q => c ((h.oo (by decide) A7 (A2.sm)).mpr q))
      obtain ⟨i76, e76, hp⟩ := mopt_some hp
      obtain ⟨a76, p76, B76⟩ := A7.so e76
      refine ⟨a76, p76, ?_⟩
      rw [h.int 304 3 rfl (by decide) B76, h.int 304 3 rfl (by decide) A2]
      obtain ⟨x77, S78, e78, L78, hp⟩ := mb_some hp
      refine q_X11_isBarred h  e78 (fun D78 s78 h78 X78 => ?_)
      have X0 := X0.tr L0 X78
      have L0 := L0.tr L78
      refine ⟨fun c => ?_, fun c => ?_⟩
      · replace hp := mif_t hp c
        have A0_s78 := A0.up L78 X78
        have A2_s78 := A2.up L78 X78
        have A4_s78 := A4.up L78 X78
        exact hK54 _ _ _ _ _ _ _ _ _ _ _ h78 L0 X0 A0_s78 A2_s78 ⟨_, p4, A4_s78⟩ hp
      · replace hp := mif_f hp c
        exact hq _ _ _ _ h78 L0 X0 hp
set_option maxRecDepth 100000 in
set_option maxHeartbeats 1000000 in
theorem q_X11_fitsIntoBox_54 {D0 : Nat → Nat → Nat} {S0 S' : Ss} {r : Int32} {Q : Int32 → St → Prop} (hq : ∀ D σ S x, RC D σ S → zle S0 S → DX S0 D0 D → (mret x).1 S = some (r, S') → Q x σ) : ∀ (f : Nat) (D : Nat → Nat → Nat) (σ : St) (S : Ss) (a0 : Nat) (x1 : Int32) (a2 : Nat) (i2 : Nat) (x3 : Int32) (o4 : Option Nat) (x5 : Int32) (x6 : Int32), RC D σ S → zle S0 S → DX S0 D0 D → AT D S 11 0 a0 → AT D S 3 i2 a2 → (∃ b, o4 = some b ∧ AT D S 20000 1101 b) → (f_X11_fitsIntoBox_54 f x1 i2 x3 x5 x6).1 S = some (r, S') → w_X11_fitsIntoBox_54 Q  f a0 x1 a2 x3 o4 x5 x6 σ := by
  intro f
  induction f with
  | zero => intro D σ S a0 x1 a2 i2 x3 o4 x5 x6 h L0 X0 A0 A2 A4 hp; cases hp
  | succ f ih =>
    intro D σ S a0 x1 a2 i2 x3 o4 x5 x6 h L0 X0 A0 A2 A4 hp
    unfold f_X11_fitsIntoBox_54 at hp
    unfold w_X11_fitsIntoBox_54
    obtain ⟨b4, p4, A4⟩ := A4
    replace hp := mrd_some hp
    refine ⟨fun c => ?_, fun c => ?_⟩
    · replace hp := mif_t hp c
      exact hq _ _ _ _ h L0 X0 hp
    · replace hp := mif_f hp c
      refine ⟨b4, p4, ?_⟩
      obtain ⟨v_1, hp⟩ := mix_some hp
      refine ⟨by rw [h.aln 1101 3 rfl A4]; exact v_1, ?_⟩
      intro o67 ho67
      have C67 := h.ael 1101 3 rfl A4 v_1
      rw [← ho67] at C67
      obtain ⟨b67, p67, B67⟩ := C67.so rfl
      intro o68 ho68
      obtain ⟨b68, p68, B68⟩ := h.cel 1113 11 rfl A0 ho68
      refine ⟨b68, p68, ?_⟩
      obtain ⟨x70, ex70, hp⟩ := mbo_some hp
      refine q_at h (show cF 1113 11 = true from rfl) B68 ex70 ?_
      refine ⟨b67, p67, ?_⟩
      refine ⟨fun c => ?_, fun c => ?_⟩
      · rw [h.int 300 3 rfl (by decide) B67] at c
        replace hp := mif_f hp c
        exact q_X11_fitsIntoBox_94 hq ih  _ _ _ _ _ _ _ _ _ _ _ _ _ _ h L0 X0 A0 A2 ⟨_, rfl, A4⟩ (B67.sm) hp
      · rw [h.int 300 3 rfl (by decide) B67] at c
        replace hp := mif_t hp c
        exact q_X11_fitsIntoBox_94 hq ih  _ _ _ _ _ _ _ _ _ _ _ _ _ _ h L0 X0 A0 A2 ⟨_, rfl, A4⟩ (B67.sm) hp
set_option maxRecDepth 100000 in
set_option maxHeartbeats 1000000 in
theorem q_X11_fitsIntoBox {D : Nat → Nat → Nat} {σ : St} {S S' : Ss} {a0 : Nat} {x1 : Int32} {a2 : Nat} {i2 : Nat} {x3 : Int32} {r : Int32} (h : RC D σ S) (A0 : AT D S 11 0 a0) (A2 : AT D S 3 i2 a2) (hp : (f_X11_fitsIntoBox x1 i2 x3).1 S = some (r, S')) {Q : Int32 → St → Prop} (hq : ∀ D' τ, RC D' τ S' → DX S D D' → Q r τ) : w_X11_fitsIntoBox a0 x1 a2 x3 σ Q := by
  have L0 := zle.rf S
  have X0 := DX.rf S D
  replace hq : ∀ D9 σ9 S9 x, RC D9 σ9 S9 → zle S S9 → DX S D D9 → (mret x).1 S9 = some (r, S') → Q x σ9 := fun D9 σ9 S9 x h9 _ X9 e9 => by obtain ⟨rfl, rfl⟩ := mret_some e9; exact hq D9 σ9 h9 X9
  unfold f_X11_fitsIntoBox at hp
  unfold w_X11_fitsIntoBox
  replace hp := mrd_some hp
  intro o51 ho51
  obtain ⟨b51, p51, B51⟩ := h.cel 1113 11 rfl A0 ho51
  refine ⟨b51, p51, ?_⟩
  obtain ⟨x53, ex53, hp⟩ := mbo_some hp
  refine q_at h (show cF 1113 11 = true from rfl) B51 ex53 ?_
  refine ⟨fun c => ?_, fun c => ?_⟩
  · rw [h.int 302 3 rfl (by decide) A2] at c
    replace hp := mif_t hp c
    exact hq _ _ _ _ h L0 X0 hp
  · rw [h.int 302 3 rfl (by decide) A2] at c
    replace hp := mif_f hp c
    intro o56 ho56
    obtain ⟨b56, p56, B56⟩ := h.cel 1113 11 rfl A0 ho56
    refine ⟨b56, p56, ?_⟩
    obtain ⟨x58, ex58, hp⟩ := mbo_some hp
    refine q_at h (show cF 1113 11 = true from rfl) B56 ex58 ?_
    refine ⟨fun c => ?_, fun c => ?_⟩
    · rw [h.int 303 3 rfl (by decide) A2] at c
      replace hp := mif_t hp c
      intro o61 ho61
      obtain ⟨b61, p61, B61⟩ := h.arr 1101 3 rfl A0 ho61
      refine ⟨b61, p61, ?_⟩
      intro x63 hx63
      rw [h.aln 1101 3 rfl B61] at hx63
      obtain ⟨yx63, ex63, hp⟩ := mbo_some hp
      obtain rfl : yx63 = x63 := ex63.trans hx63.symm
      refine ⟨FU, ?_⟩
      exact q_X11_fitsIntoBox_54 hq FU _ _ _ _ _ _ _ _ _ _ _ h L0 X0 A0 A2 ⟨_, rfl, B61⟩ hp
    · rw [h.int 303 3 rfl (by decide) A2] at c
      replace hp := mif_f hp c
      exact hq _ _ _ _ h L0 X0 hp
set_option maxRecDepth 100000 in
set_option maxHeartbeats 1000000 in
theorem q_X11_freeRoom_31 {D0 : Nat → Nat → Nat} {S0 S' : Ss} {r : Int32} {Q : Int32 → St → Prop} (hq : ∀ D σ S x, RC D σ S → zle S0 S → DX S0 D0 D → (mret x).1 S = some (r, S') → Q x σ) : ∀ (f : Nat) (D : Nat → Nat → Nat) (σ : St) (S : Ss) (a0 : Nat) (x1 : Int32) (x2 : Int32) (o3 : Option Nat) (x4 : Int32) (x5 : Int32), RC D σ S → zle S0 S → DX S0 D0 D → AT D S 11 0 a0 → (∃ b, o3 = some b ∧ AT D S 20000 1101 b) → (f_X11_freeRoom_31 f x1 x2 x4 x5).1 S = some (r, S') → w_X11_freeRoom_31 Q  f a0 x1 x2 o3 x4 x5 σ := by
  intro f
  induction f with
  | zero => intro D σ S a0 x1 x2 o3 x4 x5 h L0 X0 A0 A3 hp; cases hp
  | succ f ih =>
    intro D σ S a0 x1 x2 o3 x4 x5 h L0 X0 A0 A3 hp
    unfold f_X11_freeRoom_31 at hp
    unfold w_X11_freeRoom_31
    obtain ⟨b3, p3, A3⟩ := A3
    replace hp := mrd_some hp
    refine ⟨fun c => ?_, fun c => ?_⟩
    · replace hp := mif_t hp c
      exact hq _ _ _ _ h L0 X0 hp
    · replace hp := mif_f hp c
      refine ⟨b3, p3, ?_⟩
      obtain ⟨v_1, hp⟩ := mix_some hp
      refine ⟨by rw [h.aln 1101 3 rfl A3]; exact v_1, ?_⟩
      intro o66 ho66
      have C66 := h.ael 1101 3 rfl A3 v_1
      rw [← ho66] at C66
      obtain ⟨b66, p66, B66⟩ := C66.so rfl
      refine ⟨b66, p66, ?_⟩
      intro o68 ho68
      obtain ⟨b68, p68, B68⟩ := h.bok A0 ho68
      refine ⟨b68, p68, ?_⟩
      intro o70 ho70
      obtain ⟨b70, p70, B70⟩ := h.cel 1 0 rfl B68 ho70
      refine ⟨b70, p70, ?_⟩
      rw [h.int 300 3 rfl (by decide) B66]
      obtain ⟨x72, ex72, hp⟩ := mbo_some hp
      refine q_at h (show cF 1 0 = true from rfl) B70 ex72 ?_
      intro o74 ho74
      obtain ⟨b74, p74, B74⟩ := h.bok A0 ho74
      refine ⟨b74, p74, ?_⟩
      intro o76 ho76
      obtain ⟨b76, p76, B76⟩ := h.cel 4 0 rfl B74 ho76
      refine ⟨b76, p76, ?_⟩
      rw [h.int 300 3 rfl (by decide) B66]
      obtain ⟨x78, ex78, hp⟩ := mbo_some hp
      refine q_at h (show cF 4 0 = true from rfl) B76 ex78 ?_
      intro x80 hx80
      rw [h.int 302 3 rfl (by decide) B66] at hx80
      obtain ⟨yx80, ex80, hp⟩ := mbo_some hp
      obtain rfl : yx80 = x80 := ex80.trans hx80.symm
      exact ih _ _ _ _ _ _ _ _ _ h L0 X0 A0 ⟨_, rfl, A3⟩ hp
set_option maxRecDepth 100000 in
set_option maxHeartbeats 1000000 in
theorem q_X11_freeRoom {D : Nat → Nat → Nat} {σ : St} {S S' : Ss} {a0 : Nat} {x1 : Int32} {r : Int32} (h : RC D σ S) (A0 : AT D S 11 0 a0) (hp : (f_X11_freeRoom x1).1 S = some (r, S')) {Q : Int32 → St → Prop} (hq : ∀ D' τ, RC D' τ S' → DX S D D' → Q r τ) : w_X11_freeRoom a0 x1 σ Q := by
  have L0 := zle.rf S
  have X0 := DX.rf S D
  replace hq : ∀ D9 σ9 S9 x, RC D9 σ9 S9 → zle S S9 → DX S D D9 → (mret x).1 S9 = some (r, S') → Q x σ9 := fun D9 σ9 S9 x h9 _ X9 e9 => by obtain ⟨rfl, rfl⟩ := mret_some e9; exact hq D9 σ9 h9 X9
  unfold f_X11_freeRoom at hp
  unfold w_X11_freeRoom
  obtain ⟨x51, S52, e52, L52, hp⟩ := mb_some hp
  refine q_X11_isSlot h  e52 (fun D52 s52 h52 X52 => ?_)
  have X0 := X0.tr L0 X52
  have L0 := L0.tr L52
  replace hp := mrd_some hp
  refine ⟨fun c => ?_, fun c => ?_⟩
  · replace hp := mif_f hp c
    have A0_s52 := A0.up L52 X52
    intro o54 ho54
    obtain ⟨b54, p54, B54⟩ := h52.arr 1100 9 rfl A0_s52 ho54
    refine ⟨b54, p54, ?_⟩
    obtain ⟨v_1, hp⟩ := mix_some hp
    refine ⟨by rw [h52.aln 1100 9 rfl B54]; exact v_1, ?_⟩
    intro o57 ho57
    have C57 := h52.ael 1100 9 rfl B54 v_1
    rw [← ho57] at C57
    obtain ⟨b57, p57, B57⟩ := C57.so rfl
    refine ⟨b57, p57, ?_⟩
    intro x59 hx59
    rw [h52.int 901 9 rfl (by decide) B57] at hx59
    obtain ⟨yx59, ex59, hp⟩ := mbo_some hp
    obtain rfl : yx59 = x59 := ex59.trans hx59.symm
    intro o60 ho60
    obtain ⟨b60, p60, B60⟩ := h52.arr 1101 3 rfl A0_s52 ho60
    refine ⟨b60, p60, ?_⟩
    intro x62 hx62
    rw [h52.aln 1101 3 rfl B60] at hx62
    obtain ⟨yx62, ex62, hp⟩ := mbo_some hp
    obtain rfl : yx62 = x62 := ex62.trans hx62.symm
    refine ⟨FU, ?_⟩
    exact q_X11_freeRoom_31 hq FU _ _ _ _ _ _ _ _ _ h52 L0 X0 A0_s52 ⟨_, rfl, B60⟩ hp
  · replace hp := mif_t hp c
    exact hq _ _ _ _ h52 L0 X0 hp
set_option maxRecDepth 100000 in
set_option maxHeartbeats 1000000 in
theorem q_X11_isForWave {D : Nat → Nat → Nat} {σ : St} {S S' : Ss} {a0 : Nat} {i0 : Nat} {x1 : Int32} {r : Int32} (h : RC D σ S) (A0 : AT D S 2 i0 a0) (hp : (f_X11_isForWave i0 x1).1 S = some (r, S')) {Q : Int32 → St → Prop} (hq : ∀ D' τ, RC D' τ S' → DX S D D' → Q r τ) : w_X11_isForWave a0 x1 σ Q := by
  have L0 := zle.rf S
  have X0 := DX.rf S D
  replace hq : ∀ D9 σ9 S9 x, RC D9 σ9 S9 → zle S S9 → DX S D D9 → (mret x).1 S9 = some (r, S') → Q x σ9 := fun D9 σ9 S9 x h9 _ X9 e9 => by obtain ⟨rfl, rfl⟩ := mret_some e9; exact hq D9 σ9 h9 X9
  unfold f_X11_isForWave at hp
  unfold w_X11_isForWave
  replace hp := mrd_some hp
  intro o51 ho51
  obtain ⟨r51, e51, hp⟩ := mbo_some hp
  have B51 := h.refr 200 2 7 rfl A0
  rw [← ho51, ← e51] at B51
  refine ⟨fun c => ?_, fun a53 c => ?_⟩
  · replace hp := mcase_n hp (B51.no c)
    exact hq _ _ _ _ h L0 X0 hp
  · obtain ⟨i53, e53, B53⟩ := B51.sa c
    replace hp := mcase_s hp e53
    intro o54 ho54
    obtain ⟨r54, e54, hp⟩ := mbo_some hp
    have B54 := h.refr 205 2 10 rfl A0
    rw [← ho54, ← e54] at B54
    refine ⟨fun c => ?_, fun a56 c => ?_⟩
    · replace hp := mcase_n hp (B54.no c)
      obtain ⟨x57, S58, e58, L58, hp⟩ := mb_some hp
      refine q_X2_turn h A0 e58 (fun D58 s58 h58 X58 => ?_)
      have X0 := X0.tr L0 X58
      have L0 := L0.tr L58
      refine ⟨fun c => ?_, fun c => ?_⟩
      · replace hp := mif_f hp c
        exact hq _ _ _ _ h58 L0 X0 hp
      · replace hp := mif_t hp c
        exact hq _ _ _ _ h58 L0 X0 hp
    · obtain ⟨i56, e56, B56⟩ := B54.sa c
      replace hp := mcase_s hp e56
      exact hq _ _ _ _ h L0 X0 hp
set_option maxRecDepth 100000 in
set_option maxHeartbeats 1000000 in
theorem q_X11_isInRing_43 {D0 : Nat → Nat → Nat} {S0 S' : Ss} {r : Int32} {Q : Int32 → St → Prop} (hq : ∀ D σ S x, RC D σ S → zle S0 S → DX S0 D0 D → (mret x).1 S = some (r, S') → Q x σ) : ∀ (D : Nat → Nat → Nat) (σ : St) (S : Ss) (o2 : Option Nat) (r2 : Option Nat), RC D σ S → zle S0 S → DX S0 D0 D → ATo D S 8 r2 o2 → (f_X11_isInRing_43 r2).1 S = some (r, S') → w_X11_isInRing_43 Q  o2 σ := by
  intro D σ S o2 r2 h L0 X0 A2 hp
  unfold f_X11_isInRing_43 at hp
  unfold w_X11_isInRing_43
  refine ⟨fun c => ?_, fun a61 c => ?_⟩
  · replace hp := mcase_n hp (A2.no c)
    exact hq _ _ _ _ h L0 X0 hp
  · obtain ⟨i61, e61, B61⟩ := A2.sa c
    replace hp := mcase_s hp e61
    exact hq _ _ _ _ h L0 X0 hp
set_option maxRecDepth 100000 in
set_option maxHeartbeats 1000000 in
theorem q_X11_isInRing_33 {D0 : Nat → Nat → Nat} {S0 S' : Ss} {r : Int32} {Q : Int32 → St → Prop} (hq : ∀ D σ S x, RC D σ S → zle S0 S → DX S0 D0 D → (mret x).1 S = some (r, S') → Q x σ) {K4 : Nat → Nat → Option Nat → Int32 → St → Prop} {LK4 : Nat → Option Nat → Int32 → MM (Int32)} (hK4 : ∀ (D : Nat → Nat → Nat) (σ : St) (S : Ss) (a0 : Nat) (a1 : Nat) (i1 : Nat) (o2 : Option Nat) (r2 : Option Nat) (x3 : Int32), RC D σ S → zle S0 S → DX S0 D0 D → AT D S 11 0 a0 → AT D S 8 i1 a1 → ATo D S 8 r2 o2 → (LK4 i1 r2 x3).1 S = some (r, S') → K4 a0 a1 o2 x3 σ) : ∀ (D : Nat → Nat → Nat) (σ : St) (S : Ss) (a0 : Nat) (a1 : Nat) (i1 : Nat) (x3 : Int32) (os0 : Option Nat) (rs0 : Option Nat), RC D σ S → zle S0 S → DX S0 D0 D → AT D S 11 0 a0 → AT D S 8 i1 a1 → ATo D S 8 rs0 os0 → (f_X11_isInRing_33 LK4 i1 x3 rs0).1 S = some (r, S') → w_X11_isInRing_33 Q K4 a0 a1 x3 os0 σ := by
  intro D σ S a0 a1 i1 x3 os0 rs0 h L0 X0 A0 A1 As0 hp
  unfold f_X11_isInRing_33 at hp
  unfold w_X11_isInRing_33
  refine ⟨fun c => ?_, fun a59 c => ?_⟩
  · replace hp := mcase_n hp (As0.no c)
    exact q_X11_isInRing_43 hq  _ _ _ _ _ h L0 X0 ATo.nn hp
  · obtain ⟨i59, e59, B59⟩ := As0.sa c
    replace hp := mcase_s hp e59
    refine ⟨fun c => ?_, fun c => ?_⟩
    · replace hp := mif_f hp (fun q => c ((h.oo (by decide) (B59.sm) (A1.sm)).mpr q))
      exact hK4 _ _ _ _ _ _ _ _ _ h L0 X0 A0 A1 (B59.sm) hp
    · replace hp := mif_t hp ((h.oo (by decide) (B59.sm) (A1.sm)).mp c)
      exact q_X11_isInRing_43 hq  _ _ _ _ _ h L0 X0 (B59.sm) hp
set_option maxRecDepth 100000 in
set_option maxHeartbeats 1000000 in
theorem q_X11_isInRing_4 {D0 : Nat → Nat → Nat} {S0 S' : Ss} {r : Int32} {Q : Int32 → St → Prop} (hq : ∀ D σ S x, RC D σ S → zle S0 S → DX S0 D0 D → (mret x).1 S = some (r, S') → Q x σ) : ∀ (f : Nat) (D : Nat → Nat → Nat) (σ : St) (S : Ss) (a0 : Nat) (a1 : Nat) (i1 : Nat) (o2 : Option Nat) (r2 : Option Nat) (x3 : Int32), RC D σ S → zle S0 S → DX S0 D0 D → AT D S 11 0 a0 → AT D S 8 i1 a1 → ATo D S 8 r2 o2 → (f_X11_isInRing_4 f i1 r2 x3).1 S = some (r, S') → w_X11_isInRing_4 Q  f a0 a1 o2 x3 σ := by
  intro f
  induction f with
  | zero => intro D σ S a0 a1 i1 o2 r2 x3 h L0 X0 A0 A1 A2 hp; cases hp
  | succ f ih =>
    intro D σ S a0 a1 i1 o2 r2 x3 h L0 X0 A0 A1 A2 hp
    unfold f_X11_isInRing_4 at hp
    unfold w_X11_isInRing_4
    replace hp := mrd_some hp
    intro o51 ho51
    obtain ⟨b51, p51, B51⟩ := h.arr 1102 8 rfl A0 ho51
    refine ⟨b51, p51, ?_⟩
    refine ⟨fun c => ?_, fun c => ?_⟩
    · rw [h.aln 1102 8 rfl B51] at c
      replace hp := mif_t hp c
      exact hq _ _ _ _ h L0 X0 hp
    · rw [h.aln 1102 8 rfl B51] at c
      replace hp := mif_f hp c
      obtain ⟨i54, e54, hp⟩ := mopt_some hp
      obtain ⟨a54, p54, B54⟩ := A2.so e54
      refine ⟨a54, p54, ?_⟩
      refine ⟨fun c => ?_, fun c => ?_⟩
      · rw [h.int 803 8 rfl (by decide) B54] at c
        replace hp := mif_f hp c
        rw [h.int 803 8 rfl (by decide) B54]
        obtain ⟨r56, S57, e57, L57, hp⟩ := mb_some hp
        refine q_X11_robotIn h A0 e57 (fun D57 s57 o56 h57 X57 B56 => ?_)
        have X0 := X0.tr L0 X57
        have L0 := L0.tr L57
        have A0_s57 := A0.up L57 X57
        have A1_s57 := A1.up L57 X57
        exact q_X11_isInRing_33 hq ih  _ _ _ _ _ _ _ _ _ h57 L0 X0 A0_s57 A1_s57 B56 hp
      · rw [h.int 803 8 rfl (by decide) B54] at c
        replace hp := mif_t hp c
        exact q_X11_isInRing_33 hq ih  _ _ _ _ _ _ _ _ _ h L0 X0 A0 A1 ATo.nn hp
set_option maxRecDepth 100000 in
set_option maxHeartbeats 1000000 in
theorem q_X11_isInRing {D : Nat → Nat → Nat} {σ : St} {S S' : Ss} {a0 : Nat} {a1 : Nat} {i1 : Nat} {r : Int32} (h : RC D σ S) (A0 : AT D S 11 0 a0) (A1 : AT D S 8 i1 a1) (hp : (f_X11_isInRing i1).1 S = some (r, S')) {Q : Int32 → St → Prop} (hq : ∀ D' τ, RC D' τ S' → DX S D D' → Q r τ) : w_X11_isInRing a0 a1 σ Q := by
  have L0 := zle.rf S
  have X0 := DX.rf S D
  replace hq : ∀ D9 σ9 S9 x, RC D9 σ9 S9 → zle S S9 → DX S D D9 → (mret x).1 S9 = some (r, S') → Q x σ9 := fun D9 σ9 S9 x h9 _ X9 e9 => by obtain ⟨rfl, rfl⟩ := mret_some e9; exact hq D9 σ9 h9 X9
  unfold f_X11_isInRing at hp
  unfold w_X11_isInRing
  refine ⟨FU, ?_⟩
  exact q_X11_isInRing_4 hq FU _ _ _ _ _ _ _ _ _ h L0 X0 A0 A1 (A1.sm) hp
set_option maxRecDepth 100000 in
set_option maxHeartbeats 1000000 in
theorem q_X11_isLot {D : Nat → Nat → Nat} {σ : St} {S S' : Ss} {a0 : Nat} {x1 : Int32} {r : Int32} (h : RC D σ S) (A0 : AT D S 11 0 a0) (hp : (f_X11_isLot x1).1 S = some (r, S')) {Q : Int32 → St → Prop} (hq : ∀ D' τ, RC D' τ S' → DX S D D' → Q r τ) : w_X11_isLot a0 x1 σ Q := by
  have L0 := zle.rf S
  have X0 := DX.rf S D
  replace hq : ∀ D9 σ9 S9 x, RC D9 σ9 S9 → zle S S9 → DX S D D9 → (mret x).1 S9 = some (r, S') → Q x σ9 := fun D9 σ9 S9 x h9 _ X9 e9 => by obtain ⟨rfl, rfl⟩ := mret_some e9; exact hq D9 σ9 h9 X9
  unfold f_X11_isLot at hp
  unfold w_X11_isLot
  replace hp := mrd_some hp
  refine ⟨fun c => ?_, fun c => ?_⟩
  · replace hp := mif_t hp c
    exact hq _ _ _ _ h L0 X0 hp
  · replace hp := mif_f hp c
    intro o52 ho52
    obtain ⟨b52, p52, B52⟩ := h.lis 1103 11 5 rfl A0 ((lv_o (by decide)).mp A0.1) ho52
    refine ⟨b52, p52, ?_⟩
    obtain ⟨x54, ex54, hp⟩ := mbo_some hp
    refine q_size h (show lF 1103 11 5 = true from rfl) B52 ex54 ?_
    refine ⟨fun c => ?_, fun c => ?_⟩
    · replace hp := mif_t hp c
      exact hq _ _ _ _ h L0 X0 hp
    · replace hp := mif_f hp c
      exact hq _ _ _ _ h L0 X0 hp
set_option maxRecDepth 100000 in
set_option maxHeartbeats 1000000 in
theorem q_X11_isNotice {D : Nat → Nat → Nat} {σ : St} {S S' : Ss} {a0 : Nat} {x1 : Int32} {r : Int32} (h : RC D σ S) (A0 : AT D S 11 0 a0) (hp : (f_X11_isNotice x1).1 S = some (r, S')) {Q : Int32 → St → Prop} (hq : ∀ D' τ, RC D' τ S' → DX S D D' → Q r τ) : w_X11_isNotice a0 x1 σ Q := by
  have L0 := zle.rf S
  have X0 := DX.rf S D
  replace hq : ∀ D9 σ9 S9 x, RC D9 σ9 S9 → zle S S9 → DX S D D9 → (mret x).1 S9 = some (r, S') → Q x σ9 := fun D9 σ9 S9 x h9 _ X9 e9 => by obtain ⟨rfl, rfl⟩ := mret_some e9; exact hq D9 σ9 h9 X9
  unfold f_X11_isNotice at hp
  unfold w_X11_isNotice
  replace hp := mrd_some hp
  refine ⟨fun c => ?_, fun c => ?_⟩
  · replace hp := mif_t hp c
    exact hq _ _ _ _ h L0 X0 hp
  · replace hp := mif_f hp c
    intro o52 ho52
    obtain ⟨b52, p52, B52⟩ := h.lis 1105 11 6 rfl A0 ((lv_o (by decide)).mp A0.1) ho52
    refine ⟨b52, p52, ?_⟩
    obtain ⟨x54, ex54, hp⟩ := mbo_some hp
    refine q_size h (show lF 1105 11 6 = true from rfl) B52 ex54 ?_
    refine ⟨fun c => ?_, fun c => ?_⟩
    · replace hp := mif_t hp c
      exact hq _ _ _ _ h L0 X0 hp
    · replace hp := mif_f hp c
      exact hq _ _ _ _ h L0 X0 hp
set_option maxRecDepth 100000 in
set_option maxHeartbeats 1000000 in
theorem q_X11_isOrder {D : Nat → Nat → Nat} {σ : St} {S S' : Ss} {a0 : Nat} {x1 : Int32} {r : Int32} (h : RC D σ S) (A0 : AT D S 11 0 a0) (hp : (f_X11_isOrder x1).1 S = some (r, S')) {Q : Int32 → St → Prop} (hq : ∀ D' τ, RC D' τ S' → DX S D D' → Q r τ) : w_X11_isOrder a0 x1 σ Q := by
  have L0 := zle.rf S
  have X0 := DX.rf S D
  replace hq : ∀ D9 σ9 S9 x, RC D9 σ9 S9 → zle S S9 → DX S D D9 → (mret x).1 S9 = some (r, S') → Q x σ9 := fun D9 σ9 S9 x h9 _ X9 e9 => by obtain ⟨rfl, rfl⟩ := mret_some e9; exact hq D9 σ9 h9 X9
  unfold f_X11_isOrder at hp
  unfold w_X11_isOrder
  replace hp := mrd_some hp
  refine ⟨fun c => ?_, fun c => ?_⟩
  · replace hp := mif_t hp c
    exact hq _ _ _ _ h L0 X0 hp
  · replace hp := mif_f hp c
    intro o52 ho52
    obtain ⟨b52, p52, B52⟩ := h.lis 1106 11 7 rfl A0 ((lv_o (by decide)).mp A0.1) ho52
    refine ⟨b52, p52, ?_⟩
    obtain ⟨x54, ex54, hp⟩ := mbo_some hp
    refine q_size h (show lF 1106 11 7 = true from rfl) B52 ex54 ?_
    refine ⟨fun c => ?_, fun c => ?_⟩
    · replace hp := mif_t hp c
      exact hq _ _ _ _ h L0 X0 hp
    · replace hp := mif_f hp c
      exact hq _ _ _ _ h L0 X0 hp
set_option maxRecDepth 100000 in
set_option maxHeartbeats 1000000 in
theorem q_X11_isTask {D : Nat → Nat → Nat} {σ : St} {S S' : Ss} {a0 : Nat} {x1 : Int32} {r : Int32} (h : RC D σ S) (A0 : AT D S 11 0 a0) (hp : (f_X11_isTask x1).1 S = some (r, S')) {Q : Int32 → St → Prop} (hq : ∀ D' τ, RC D' τ S' → DX S D D' → Q r τ) : w_X11_isTask a0 x1 σ Q := by
  have L0 := zle.rf S
  have X0 := DX.rf S D
  replace hq : ∀ D9 σ9 S9 x, RC D9 σ9 S9 → zle S S9 → DX S D D9 → (mret x).1 S9 = some (r, S') → Q x σ9 := fun D9 σ9 S9 x h9 _ X9 e9 => by obtain ⟨rfl, rfl⟩ := mret_some e9; exact hq D9 σ9 h9 X9
  unfold f_X11_isTask at hp
  unfold w_X11_isTask
  replace hp := mrd_some hp
  refine ⟨fun c => ?_, fun c => ?_⟩
  · replace hp := mif_t hp c
    exact hq _ _ _ _ h L0 X0 hp
  · replace hp := mif_f hp c
    intro o52 ho52
    obtain ⟨b52, p52, B52⟩ := h.lis 1108 11 10 rfl A0 ((lv_o (by decide)).mp A0.1) ho52
    refine ⟨b52, p52, ?_⟩
    obtain ⟨x54, ex54, hp⟩ := mbo_some hp
    refine q_size h (show lF 1108 11 10 = true from rfl) B52 ex54 ?_
    refine ⟨fun c => ?_, fun c => ?_⟩
    · replace hp := mif_t hp c
      exact hq _ _ _ _ h L0 X0 hp
    · replace hp := mif_f hp c
      exact hq _ _ _ _ h L0 X0 hp
set_option maxRecDepth 100000 in
set_option maxHeartbeats 1000000 in
theorem q_X11_openBox_2 {D0 : Nat → Nat → Nat} {S0 S' : Ss} {r : Unit} {Q : St → Prop} (hq : ∀ D σ S, RC D σ S → zle S0 S → DX S0 D0 D → (mret ()).1 S = some (r, S') → Q σ) : ∀ (f : Nat) (D : Nat → Nat → Nat) (σ : St) (S : Ss) (a0 : Nat) (x1 : Int32), RC D σ S → zle S0 S → DX S0 D0 D → AT D S 11 0 a0 → (f_X11_openBox_2 f x1).1 S = some (r, S') → w_X11_openBox_2 Q  f a0 x1 σ := by
  intro f
  induction f with
  | zero => intro D σ S a0 x1 h L0 X0 A0 hp; cases hp
  | succ f ih =>
    intro D σ S a0 x1 h L0 X0 A0 hp
    unfold f_X11_openBox_2 at hp
    unfold w_X11_openBox_2
    replace hp := mrd_some hp
    refine ⟨fun c => ?_, fun c => ?_⟩
    · replace hp := mif_t hp c
      intro s52 es52
      rw [h.int 1114 11 rfl (by decide) A0] at es52
      obtain ⟨S52, z52, L52, hp⟩ := mst_some hp
      have h52 := h.wI (rfl : 1114 / 100 = 11) (by decide) (by decide) A0 es52
      rw [z52] at h52
      have L0 := L0.tr L52
      exact hq _ _ _ h52 L0 X0 hp
    · replace hp := mif_f hp c
      intro o53 ho53
      obtain ⟨b53, p53, B53⟩ := h.cel 1113 11 rfl A0 ho53
      refine ⟨b53, p53, ?_⟩
      rw [h.int 1114 11 rfl (by decide) A0]
      obtain ⟨S56, z56, L56, hp⟩ := mst_some hp
      refine q_put h (show cF 1113 11 = true from rfl) B53 (fun s56 h56 => ?_)
      rw [z56] at h56
      have L0 := L0.tr L56
      have A0_s56 := A0.up L56 (DX.rf _ _)
      exact ih _ _ _ _ _ h56 L0 X0 A0_s56 hp
