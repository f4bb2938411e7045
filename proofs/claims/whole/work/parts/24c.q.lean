set_option maxRecDepth 100000 in
set_option maxHeartbeats 1000000 in
theorem q_X11_holdingsForWave_4 {D0 : Nat → Nat → Nat} {S0 S' : Ss} {r : Int32} {Q : Int32 → St → Prop} (hq : ∀ D σ S x, RC D σ S → zle S0 S → DX S0 D0 D → (mret x).1 S = some (r, S') → Q x σ) : ∀ (f : Nat) (D : Nat → Nat → Nat) (σ : St) (S : Ss) (a0 : Nat) (x1 : Int32) (x2 : Int32) (x3 : Int32), RC D σ S → zle S0 S → DX S0 D0 D → AT D S 11 0 a0 → (f_X11_holdingsForWave_4 f x1 x2 x3).1 S = some (r, S') → w_X11_holdingsForWave_4 Q  f a0 x1 x2 x3 σ := by
  intro f
  induction f with
  | zero => intro D σ S a0 x1 x2 x3 h L0 X0 A0 hp; cases hp
  | succ f ih =>
    intro D σ S a0 x1 x2 x3 h L0 X0 A0 hp
    unfold f_X11_holdingsForWave_4 at hp
    unfold w_X11_holdingsForWave_4
    replace hp := mrd_some hp
    intro o51 ho51
    obtain ⟨b51, p51, B51⟩ := h.lis 1107 11 2 rfl A0 ((lv_o (by decide)).mp A0.1) ho51
    refine ⟨b51, p51, ?_⟩
    obtain ⟨x53, ex53, hp⟩ := mbo_some hp
    refine q_size h (show lF 1107 11 2 = true from rfl) B51 ex53 ?_
    refine ⟨fun c => ?_, fun c => ?_⟩
    · replace hp := mif_t hp c
      exact hq _ _ _ _ h L0 X0 hp
    · replace hp := mif_f hp c
      intro o56 ho56
      obtain ⟨b56, p56, B56⟩ := h.lis 1107 11 2 rfl A0 ((lv_o (by decide)).mp A0.1) ho56
      refine ⟨b56, p56, ?_⟩
      obtain ⟨i58, e58, hp⟩ := mlget_some hp
      refine q_get h (show lF 1107 11 2 = true from rfl) B56 e58 (fun b58 B58 => ?_)
      refine ⟨b58, rfl, ?_⟩
      refine ⟨h.ob (by decide) B58, ?_⟩
      obtain ⟨x62, S63, e63, L63, hp⟩ := mb_some hp
      refine q_X11_isForWave h B58 e63 (fun D63 s63 h63 X63 => ?_)
      have X0 := X0.tr L0 X63
      have L0 := L0.tr L63
      refine ⟨fun c => ?_, fun c => ?_⟩
      · replace hp := mif_t hp c
        have A0_s63 := A0.up L63 X63
        exact ih _ _ _ _ _ _ _ h63 L0 X0 A0_s63 hp
      · replace hp := mif_f hp c
        have A0_s63 := A0.up L63 X63
        exact ih _ _ _ _ _ _ _ h63 L0 X0 A0_s63 hp
set_option maxRecDepth 100000 in
set_option maxHeartbeats 1000000 in
theorem q_X11_holdingsForWave {D : Nat → Nat → Nat} {σ : St} {S S' : Ss} {a0 : Nat} {x1 : Int32} {r : Int32} (h : RC D σ S) (A0 : AT D S 11 0 a0) (hp : (f_X11_holdingsForWave x1).1 S = some (r, S')) {Q : Int32 → St → Prop} (hq : ∀ D' τ, RC D' τ S' → DX S D D' → Q r τ) : w_X11_holdingsForWave a0 x1 σ Q := by
  have L0 := zle.rf S
  have X0 := DX.rf S D
  replace hq : ∀ D9 σ9 S9 x, RC D9 σ9 S9 → zle S S9 → DX S D D9 → (mret x).1 S9 = some (r, S') → Q x σ9 := fun D9 σ9 S9 x h9 _ X9 e9 => by obtain ⟨rfl, rfl⟩ := mret_some e9; exact hq D9 σ9 h9 X9
  unfold f_X11_holdingsForWave at hp
  unfold w_X11_holdingsForWave
  refine ⟨FU, ?_⟩
  exact q_X11_holdingsForWave_4 hq FU _ _ _ _ _ _ _ h L0 X0 A0 hp
set_option maxRecDepth 100000 in
set_option maxHeartbeats 1000000 in
theorem q_X11_lacks {D : Nat → Nat → Nat} {σ : St} {S S' : Ss} {a0 : Nat} {x1 : Int32} {x2 : Int32} {r : Nat × Int32} (h : RC D σ S) (A0 : AT D S 11 0 a0) (hp : (f_X11_lacks x1 x2).1 S = some (r, S')) {k n : Nat} (hk : zN S' 61 ≤ zN S 61 + k) (hn : zN S' 62 ≤ zN S 62 + n) {Q : Int32 → St → Prop} (hq : ∀ D' τ, RC D' τ S' → DX S D D' → r.1 = 0 → Q r.2 τ) {Y : Nat → St → Prop} (hy : ∀ D' τ u, RC D' τ S' → DX S D D' → r.1 = u → ¬ u = 0 → Y u τ) : w_X11_lacks k n a0 x1 x2 σ Q Y := by
  have L0 := zle.rf S
  have X0 := DX.rf S D
  replace hq : ∀ D9 σ9 S9 x, RC D9 σ9 S9 → zle S S9 → DX S D D9 → (mret (0, x)).1 S9 = some (r, S') → Q x σ9 := fun D9 σ9 S9 x h9 _ X9 e9 => by obtain ⟨rfl, rfl⟩ := mret_some e9; exact hq D9 σ9 h9 X9 rfl
  replace hy : ∀ D9 σ9 S9 u, RC D9 σ9 S9 → zle S S9 → DX S D D9 → (mthr u).1 S9 = some (r, S') → ¬ u = 0 → Y u σ9 := fun D9 σ9 S9 u h9 _ X9 e9 n9 => by cases e9; exact hy D9 σ9 u (h9.cost _ _) X9 rfl n9
  unfold f_X11_lacks at hp
  unfold w_X11_lacks
  obtain ⟨x51, S52, e52, L52, hp⟩ := mb_some hp
  refine q_X11_isOrder h A0 e52 (fun D52 s52 h52 X52 => ?_)
  have hk := bup hk (L52 61)
  have hn := bup hn (L52 62)
  have X0 := X0.tr L0 X52
  have L0 := L0.tr L52
  replace hp := mrd_some hp
  refine ⟨fun c => ?_, fun c => ?_⟩
  · replace hp := mif_t hp c
    have hb := mthr_b hp hk hn
    exact ⟨hb.1, hb.2, hy _ _ _ _ h52 L0 X0 hp (by decide)⟩
  · replace hp := mif_f hp c
    refine ⟨fun c => ?_, fun c => ?_⟩
    · replace hp := mif_t hp c
      have hb := mthr_b hp hk hn
      exact ⟨hb.1, hb.2, hy _ _ _ _ h52 L0 X0 hp (by decide)⟩
    · replace hp := mif_f hp c
      have A0_s52 := A0.up L52 X52
      intro o55 ho55
      obtain ⟨b55, p55, B55⟩ := h52.lis 1106 11 7 rfl A0_s52 ((lv_o (by decide)).mp A0_s52.1) ho55
      refine ⟨b55, p55, ?_⟩
      obtain ⟨i57, e57, hp⟩ := mlget_some hp
      refine q_get h52 (show lF 1106 11 7 = true from rfl) B55 e57 (fun b57 B57 => ?_)
      refine ⟨b57, rfl, ?_⟩
      refine ⟨h52.ob (by decide) B57, ?_⟩
      intro o61 ho61
      obtain ⟨g61, hp⟩ := mgd_some hp
      obtain ⟨b61, p61, B61⟩ := h52.lis 704 7 4 rfl B57 (of_decide_eq_true g61) ho61
      refine ⟨b61, p61, ?_⟩
      obtain ⟨x63, ex63, hp⟩ := mbo_some hp
      refine q_size h52 (show lF 704 7 4 = true from rfl) B61 ex63 ?_
      refine ⟨fun c => ?_, fun c => ?_⟩
      · replace hp := mif_t hp c
        intro o66 ho66
        obtain ⟨b66, p66, B66⟩ := h52.lis 1106 11 7 rfl A0_s52 ((lv_o (by decide)).mp A0_s52.1) ho66
        refine ⟨b66, p66, ?_⟩
        obtain ⟨i68, e68, hp⟩ := mlget_some hp
        refine q_get h52 (show lF 1106 11 7 = true from rfl) B66 e68 (fun b68 B68 => ?_)
        refine ⟨b68, rfl, ?_⟩
        refine ⟨h52.ob (by decide) B68, ?_⟩
        intro o72 ho72
        obtain ⟨g72, hp⟩ := mgd_some hp
        obtain ⟨b72, p72, B72⟩ := h52.lis 704 7 4 rfl B68 (of_decide_eq_true g72) ho72
        refine ⟨b72, p72, ?_⟩
        obtain ⟨i74, e74, hp⟩ := mlget_some hp
        refine q_get h52 (show lF 704 7 4 = true from rfl) B72 e74 (fun b74 B74 => ?_)
        refine ⟨b74, rfl, ?_⟩
        refine ⟨h52.ob (by decide) B74, ?_⟩
        obtain ⟨x78, S79, e79, L79, hp⟩ := mb_some hp
        refine q_X4_lacking h52 B74 e79 (fun D79 s79 h79 X79 => ?_)
        have hk := bup hk (L79 61)
        have hn := bup hn (L79 62)
        have X0 := X0.tr L0 X79
        have L0 := L0.tr L79
        exact hq _ _ _ _ h79 L0 X0 hp
      · replace hp := mif_f hp c
        have hb := mthr_b hp hk hn
        exact ⟨hb.1, hb.2, hy _ _ _ _ h52 L0 X0 hp (by decide)⟩
set_option maxRecDepth 100000 in
set_option maxHeartbeats 1000000 in
theorem q_X11_nextForWave_7 {D0 : Nat → Nat → Nat} {S0 S' : Ss} {r : Option Nat} {Q : Option Nat → St → Prop} (hq : ∀ D σ S x o, RC D σ S → zle S0 S → DX S0 D0 D → ATo D S 2 x o → (mret x).1 S = some (r, S') → Q o σ) : ∀ (f : Nat) (D : Nat → Nat → Nat) (σ : St) (S : Ss) (a0 : Nat) (x1 : Int32) (o2 : Option Nat) (r2 : Option Nat) (x3 : Int32) (x4 : Int32), RC D σ S → zle S0 S → DX S0 D0 D → AT D S 11 0 a0 → ATo D S 2 r2 o2 → (f_X11_nextForWave_7 f x1 r2 x3 x4).1 S = some (r, S') → w_X11_nextForWave_7 Q  f a0 x1 o2 x3 x4 σ := by
  intro f
  induction f with
  | zero => intro D σ S a0 x1 o2 r2 x3 x4 h L0 X0 A0 A2 hp; cases hp
  | succ f ih =>
    intro D σ S a0 x1 o2 r2 x3 x4 h L0 X0 A0 A2 hp
    unfold f_X11_nextForWave_7 at hp
    unfold w_X11_nextForWave_7
    replace hp := mrd_some hp
    intro o51 ho51
    obtain ⟨b51, p51, B51⟩ := h.lis 1107 11 2 rfl A0 ((lv_o (by decide)).mp A0.1) ho51
    refine ⟨b51, p51, ?_⟩
    obtain ⟨x53, ex53, hp⟩ := mbo_some hp
    refine q_size h (show lF 1107 11 2 = true from rfl) B51 ex53 ?_
    refine ⟨fun c => ?_, fun c => ?_⟩
    · replace hp := mif_t hp c
      exact hq _ _ _ _ _ h L0 X0 A2 hp
    · replace hp := mif_f hp c
      intro o56 ho56
      obtain ⟨b56, p56, B56⟩ := h.lis 1107 11 2 rfl A0 ((lv_o (by decide)).mp A0.1) ho56
      refine ⟨b56, p56, ?_⟩
      obtain ⟨i58, e58, hp⟩ := mlget_some hp
      refine q_get h (show lF 1107 11 2 = true from rfl) B56 e58 (fun b58 B58 => ?_)
      refine ⟨b58, rfl, ?_⟩
      refine ⟨h.ob (by decide) B58, ?_⟩
      obtain ⟨x62, S63, e63, L63, hp⟩ := mb_some hp
      refine q_X11_turnInWave h B58 e63 (fun D63 s63 h63 X63 => ?_)
      have X0 := X0.tr L0 X63
      have L0 := L0.tr L63
      have B58_s63 := B58.up L63 X63
      obtain ⟨x64, S65, e65, L65, hp⟩ := mb_some hp
      refine q_X11_isForWave h63 B58_s63 e65 (fun D65 s65 h65 X65 => ?_)
      have X0 := X0.tr L0 X65
      have L0 := L0.tr L65
      refine ⟨fun c => ?_, fun c => ?_⟩
      · replace hp := mif_t hp c
        have A0_s63 := A0.up L63 X63
        have A0_s65 := A0_s63.up L65 X65
        have A2_s63 := A2.up L63 X63
        have A2_s65 := A2_s63.up L65 X65
        exact ih _ _ _ _ _ _ _ _ _ h65 L0 X0 A0_s65 A2_s65 hp
      · replace hp := mif_f hp c
        have A2_s63 := A2.up L63 X63
        have A2_s65 := A2_s63.up L65 X65
        refine ⟨fun c => ?_, fun a68 c => ?_⟩
        · replace hp := mcase_n hp (A2_s65.no c)
          have A0_s63 := A0.up L63 X63
          have A0_s65 := A0_s63.up L65 X65
          have B58_s65 := B58_s63.up L65 X65
          exact ih _ _ _ _ _ _ _ _ _ h65 L0 X0 A0_s65 (B58_s65.sm) hp
        · obtain ⟨i68, e68, B68⟩ := A2_s65.sa c
          replace hp := mcase_s hp e68
          refine ⟨fun c => ?_, fun c => ?_⟩
          · replace hp := mif_t hp c
            have A0_s63 := A0.up L63 X63
            have A0_s65 := A0_s63.up L65 X65
            exact ih _ _ _ _ _ _ _ _ _ h65 L0 X0 A0_s65 (B68.sm) hp
          · replace hp := mif_f hp c
            have A0_s63 := A0.up L63 X63
            have A0_s65 := A0_s63.up L65 X65
            have B58_s65 := B58_s63.up L65 X65
            exact ih _ _ _ _ _ _ _ _ _ h65 L0 X0 A0_s65 (B58_s65.sm) hp
set_option maxRecDepth 100000 in
set_option maxHeartbeats 1000000 in
theorem q_X11_nextForWave {D : Nat → Nat → Nat} {σ : St} {S S' : Ss} {a0 : Nat} {x1 : Int32} {r : Option Nat} (h : RC D σ S) (A0 : AT D S 11 0 a0) (hp : (f_X11_nextForWave x1).1 S = some (r, S')) {Q : Option Nat → St → Prop} (hq : ∀ D' τ o, RC D' τ S' → DX S D D' → ATo D' S' 2 r o → Q o τ) : w_X11_nextForWave a0 x1 σ Q := by
  have L0 := zle.rf S
  have X0 := DX.rf S D
  replace hq : ∀ D9 σ9 S9 x o, RC D9 σ9 S9 → zle S S9 → DX S D D9 → ATo D9 S9 2 x o → (mret x).1 S9 = some (r, S') → Q o σ9 := fun D9 σ9 S9 x o h9 _ X9 B9 e9 => by obtain ⟨rfl, rfl⟩ := mret_some e9; exact hq D9 σ9 o h9 X9 B9
  unfold f_X11_nextForWave at hp
  unfold w_X11_nextForWave
  refine ⟨FU, ?_⟩
  exact q_X11_nextForWave_7 hq FU _ _ _ _ _ _ _ _ _ h L0 X0 A0 ATo.nn hp
set_option maxRecDepth 100000 in
set_option maxHeartbeats 1000000 in
theorem q_X11_pack_45 {D0 : Nat → Nat → Nat} {S0 S' : Ss} {r : Unit} {Q : St → Prop} (hq : ∀ D σ S, RC D σ S → zle S0 S → DX S0 D0 D → (mret ()).1 S = some (r, S') → Q σ) {K27 : Nat → Nat → Int32 → Int32 → St → Prop} {LK27 : Nat → Int32 → Int32 → MM (Unit)} (hK27 : ∀ (D : Nat → Nat → Nat) (σ : St) (S : Ss) (a0 : Nat) (a1 : Nat) (i1 : Nat) (x2 : Int32) (x3 : Int32), RC D σ S → zle S0 S → DX S0 D0 D → AT D S 11 0 a0 → AT D S 7 i1 a1 → (LK27 i1 x2 x3).1 S = some (r, S') → K27 a0 a1 x2 x3 σ) : ∀ (f : Nat) (D : Nat → Nat → Nat) (σ : St) (S : Ss) (a0 : Nat) (a1 : Nat) (i1 : Nat) (x2 : Int32) (x3 : Int32) (o4 : Option Nat) (x5 : Int32) (x6 : Int32), RC D σ S → zle S0 S → DX S0 D0 D → AT D S 11 0 a0 → AT D S 7 i1 a1 → (∃ b, o4 = some b ∧ AT D S 20000 1101 b) → (f_X11_pack_45 LK27 f i1 x2 x3 x5 x6).1 S = some (r, S') → w_X11_pack_45 Q K27 f a0 a1 x2 x3 o4 x5 x6 σ := by
  intro f
  induction f with
  | zero => intro D σ S a0 a1 i1 x2 x3 o4 x5 x6 h L0 X0 A0 A1 A4 hp; cases hp
  | succ f ih =>
    intro D σ S a0 a1 i1 x2 x3 o4 x5 x6 h L0 X0 A0 A1 A4 hp
    unfold f_X11_pack_45 at hp
    unfold w_X11_pack_45
    obtain ⟨b4, p4, A4⟩ := A4
    replace hp := mrd_some hp
    refine ⟨fun c => ?_, fun c => ?_⟩
    · replace hp := mif_t hp c
      exact hK27 _ _ _ _ _ _ _ _ h L0 X0 A0 A1 hp
    · replace hp := mif_f hp c
      refine ⟨b4, p4, ?_⟩
      obtain ⟨v_1, hp⟩ := mix_some hp
      refine ⟨by rw [h.aln 1101 3 rfl A4]; exact v_1, ?_⟩
      intro o60 ho60
      have C60 := h.ael 1101 3 rfl A4 v_1
      rw [← ho60] at C60
      obtain ⟨b60, p60, B60⟩ := C60.so rfl
      refine ⟨b60, p60, ?_⟩
      refine ⟨fun c => ?_, fun c => ?_⟩
      · rw [h.int 302 3 rfl (by decide) B60] at c
        replace hp := mif_f hp c
        exact ih _ _ _ _ _ _ _ _ _ _ _ h L0 X0 A0 A1 ⟨_, rfl, A4⟩ hp
      · rw [h.int 302 3 rfl (by decide) B60] at c
        replace hp := mif_t hp c
        obtain ⟨x63, S64, e64, L64, hp⟩ := mb_some hp
        refine q_X11_piecesToPack h A0 A1 B60 e64 (fun D64 s64 h64 X64 => ?_)
        have X0 := X0.tr L0 X64
        have L0 := L0.tr L64
        have A0_s64 := A0.up L64 X64
        have B60_s64 := B60.up L64 X64
        obtain ⟨w66, S66, e66, L66, hp⟩ := mb_some hp
        refine q_X11_fillBoxes h64 A0_s64 B60_s64 e66 (fun D66 s66 h66 X66 => ?_)
        have X0 := X0.tr L0 X66
        have L0 := L0.tr L66
        have A0_s66 := A0_s64.up L66 X66
        have A1_s64 := A1.up L64 X64
        have A1_s66 := A1_s64.up L66 X66
        have A4_s64 := A4.up L64 X64
        have A4_s66 := A4_s64.up L66 X66
        exact ih _ _ _ _ _ _ _ _ _ _ _ h66 L0 X0 A0_s66 A1_s66 ⟨_, rfl, A4_s66⟩ hp
set_option maxRecDepth 100000 in
set_option maxHeartbeats 1000000 in
theorem q_X11_pack_27 {D0 : Nat → Nat → Nat} {S0 S' : Ss} {r : Unit} {Q : St → Prop} (hq : ∀ D σ S, RC D σ S → zle S0 S → DX S0 D0 D → (mret ()).1 S = some (r, S') → Q σ) : ∀ (f : Nat) (D : Nat → Nat → Nat) (σ : St) (S : Ss) (a0 : Nat) (a1 : Nat) (i1 : Nat) (x2 : Int32) (x3 : Int32), RC D σ S → zle S0 S → DX S0 D0 D → AT D S 11 0 a0 → AT D S 7 i1 a1 → (f_X11_pack_27 f i1 x2 x3).1 S = some (r, S') → w_X11_pack_27 Q  f a0 a1 x2 x3 σ := by
  intro f
  induction f with
  | zero => intro D σ S a0 a1 i1 x2 x3 h L0 X0 A0 A1 hp; cases hp
  | succ f ih =>
    intro D σ S a0 a1 i1 x2 x3 h L0 X0 A0 A1 hp
    unfold f_X11_pack_27 at hp
    unfold w_X11_pack_27
    refine ⟨fun c => ?_, fun c => ?_⟩
    · replace hp := mif_t hp c
      exact hq _ _ _ h L0 X0 hp
    · replace hp := mif_f hp c
      intro o54 ho54
      obtain ⟨b54, p54, B54⟩ := h.arr 1101 3 rfl A0 ho54
      refine ⟨b54, p54, ?_⟩
      intro x56 hx56
      rw [h.aln 1101 3 rfl B54] at hx56
      obtain ⟨yx56, ex56, hp⟩ := mbo_some hp
      obtain rfl : yx56 = x56 := ex56.trans hx56.symm
      refine ⟨FU, ?_⟩
      exact q_X11_pack_45 hq ih FU _ _ _ _ _ _ _ _ _ _ _ h L0 X0 A0 A1 ⟨_, rfl, B54⟩ hp
set_option maxRecDepth 100000 in
set_option maxHeartbeats 1000000 in
theorem q_X11_pack_18 {D0 : Nat → Nat → Nat} {S0 S' : Ss} {r : Unit} {Q : St → Prop} (hq : ∀ D σ S, RC D σ S → zle S0 S → DX S0 D0 D → (mret ()).1 S = some (r, S') → Q σ) : ∀ (D : Nat → Nat → Nat) (σ : St) (S : Ss) (a0 : Nat) (a1 : Nat) (i1 : Nat) (xs0 : Int32), RC D σ S → zle S0 S → DX S0 D0 D → AT D S 11 0 a0 → AT D S 7 i1 a1 → (f_X11_pack_18 i1 xs0).1 S = some (r, S') → w_X11_pack_18 Q  a0 a1 xs0 σ := by
  intro D σ S a0 a1 i1 xs0 h L0 X0 A0 A1 hp
  unfold f_X11_pack_18 at hp
  unfold w_X11_pack_18
  intro s52 es52
  obtain ⟨S52, z52, L52, hp⟩ := mst_some hp
  have h52 := h.wI (rfl : 1114 / 100 = 11) (by decide) (by decide) A0 es52
  rw [z52] at h52
  have L0 := L0.tr L52
  refine ⟨FU, ?_⟩
  have A0_s52 := A0.up L52 (DX.rf _ _)
  have A1_s52 := A1.up L52 (DX.rf _ _)
  exact q_X11_pack_27 hq FU _ _ _ _ _ _ _ _ h52 L0 X0 A0_s52 A1_s52 hp
set_option maxRecDepth 100000 in
set_option maxHeartbeats 1000000 in
theorem q_X11_pack {D : Nat → Nat → Nat} {σ : St} {S S' : Ss} {a0 : Nat} {a1 : Nat} {i1 : Nat} {r : Unit} (h : RC D σ S) (A0 : AT D S 11 0 a0) (A1 : AT D S 7 i1 a1) (hp : (f_X11_pack i1).1 S = some (r, S')) {Q : St → Prop} (hq : ∀ D' τ, RC D' τ S' → DX S D D' → Q τ) : w_X11_pack a0 a1 σ Q := by
  have L0 := zle.rf S
  have X0 := DX.rf S D
  replace hq : ∀ D9 σ9 S9, RC D9 σ9 S9 → zle S S9 → DX S D D9 → (mret ()).1 S9 = some (r, S') → Q σ9 := fun D9 σ9 S9 h9 _ X9 e9 => by obtain ⟨rfl, rfl⟩ := mret_some e9; exact hq D9 σ9 h9 X9
  unfold f_X11_pack at hp
  unfold w_X11_pack
  replace hp := mrd_some hp
  refine ⟨fun c => ?_, fun c => ?_⟩
  · rw [h.int 705 7 rfl (by decide) A1] at c
    replace hp := mif_t hp c
    rw [h.int 1115 11 rfl (by decide) A0]
    exact q_X11_pack_18 hq  _ _ _ _ _ _ _ h L0 X0 A0 A1 hp
  · rw [h.int 705 7 rfl (by decide) A1] at c
    replace hp := mif_f hp c
    rw [h.int 706 7 rfl (by decide) A1]
    exact q_X11_pack_18 hq  _ _ _ _ _ _ _ h L0 X0 A0 A1 hp
set_option maxRecDepth 100000 in
set_option maxHeartbeats 1000000 in
theorem q_X11_piecesGoodFor_41 {D0 : Nat → Nat → Nat} {S0 S' : Ss} {r : Int32} {Q : Int32 → St → Prop} (hq : ∀ D σ S x, RC D σ S → zle S0 S → DX S0 D0 D → (mret x).1 S = some (r, S') → Q x σ) {K5 : Nat → Nat → Nat → Int32 → Int32 → St → Prop} {LK5 : Nat → Nat → Int32 → Int32 → MM (Int32)} (hK5 : ∀ (D : Nat → Nat → Nat) (σ : St) (S : Ss) (a0 : Nat) (a1 : Nat) (i1 : Nat) (a2 : Nat) (i2 : Nat) (x3 : Int32) (x4 : Int32), RC D σ S → zle S0 S → DX S0 D0 D → AT D S 11 0 a0 → AT D S 7 i1 a1 → AT D S 3 i2 a2 → (LK5 i1 i2 x3 x4).1 S = some (r, S') → K5 a0 a1 a2 x3 x4 σ) : ∀ (f : Nat) (D : Nat → Nat → Nat) (σ : St) (S : Ss) (a0 : Nat) (a1 : Nat) (i1 : Nat) (a2 : Nat) (i2 : Nat) (x3 : Int32) (x4 : Int32) (x5 : Int32), RC D σ S → zle S0 S → DX S0 D0 D → AT D S 11 0 a0 → AT D S 7 i1 a1 → AT D S 3 i2 a2 → (f_X11_piecesGoodFor_41 LK5 f i1 i2 x3 x4 x5).1 S = some (r, S') → w_X11_piecesGoodFor_41 Q K5 f a0 a1 a2 x3 x4 x5 σ := by
  intro f
  induction f with
  | zero => intro D σ S a0 a1 i1 a2 i2 x3 x4 x5 h L0 X0 A0 A1 A2 hp; cases hp
  | succ f ih =>
    intro D σ S a0 a1 i1 a2 i2 x3 x4 x5 h L0 X0 A0 A1 A2 hp
    unfold f_X11_piecesGoodFor_41 at hp
    unfold w_X11_piecesGoodFor_41
    refine ⟨fun c => ?_, fun c => ?_⟩
    · replace hp := mif_t hp c
      exact hK5 _ _ _ _ _ _ _ _ _ _ h L0 X0 A0 A1 A2 hp
    · replace hp := mif_f hp c
      intro o66 ho66
      obtain ⟨b66, p66, B66⟩ := h.bok A0 ho66
      refine ⟨b66, p66, ?_⟩
      obtain ⟨x68, S69, e69, L69, hp⟩ := mb_some hp
      refine q_X0_freePieces h B66 e69 (fun D69 s69 h69 X69 => ?_)
      have X0 := X0.tr L0 X69
      have L0 := L0.tr L69
      intro x70 hx70
      obtain ⟨yx70, ex70, hp⟩ := mbo_some hp
      obtain rfl : yx70 = x70 := ex70.trans hx70.symm
      have A0_s69 := A0.up L69 X69
      have A1_s69 := A1.up L69 X69
      have A2_s69 := A2.up L69 X69
      exact ih _ _ _ _ _ _ _ _ _ _ _ h69 L0 X0 A0_s69 A1_s69 A2_s69 hp
set_option maxRecDepth 100000 in
set_option maxHeartbeats 1000000 in
theorem q_X11_piecesGoodFor_5 {D0 : Nat → Nat → Nat} {S0 S' : Ss} {r : Int32} {Q : Int32 → St → Prop} (hq : ∀ D σ S x, RC D σ S → zle S0 S → DX S0 D0 D → (mret x).1 S = some (r, S') → Q x σ) : ∀ (f : Nat) (D : Nat → Nat → Nat) (σ : St) (S : Ss) (a0 : Nat) (a1 : Nat) (i1 : Nat) (a2 : Nat) (i2 : Nat) (x3 : Int32) (x4 : Int32), RC D σ S → zle S0 S → DX S0 D0 D → AT D S 11 0 a0 → AT D S 7 i1 a1 → AT D S 3 i2 a2 → (f_X11_piecesGoodFor_5 f i1 i2 x3 x4).1 S = some (r, S') → w_X11_piecesGoodFor_5 Q  f a0 a1 a2 x3 x4 σ := by
  intro f
  induction f with
  | zero => intro D σ S a0 a1 i1 a2 i2 x3 x4 h L0 X0 A0 A1 A2 hp; cases hp
  | succ f ih =>
    intro D σ S a0 a1 i1 a2 i2 x3 x4 h L0 X0 A0 A1 A2 hp
    unfold f_X11_piecesGoodFor_5 at hp
    unfold w_X11_piecesGoodFor_5
    replace hp := mrd_some hp
    intro o51 ho51
    obtain ⟨b51, p51, B51⟩ := h.lis 1103 11 5 rfl A0 ((lv_o (by decide)).mp A0.1) ho51
    refine ⟨b51, p51, ?_⟩
    obtain ⟨x53, ex53, hp⟩ := mbo_some hp
    refine q_size h (show lF 1103 11 5 = true from rfl) B51 ex53 ?_
    refine ⟨fun c => ?_, fun c => ?_⟩
    · replace hp := mif_t hp c
      exact hq _ _ _ _ h L0 X0 hp
    · replace hp := mif_f hp c
      intro o56 ho56
      obtain ⟨b56, p56, B56⟩ := h.lis 1103 11 5 rfl A0 ((lv_o (by decide)).mp A0.1) ho56
      refine ⟨b56, p56, ?_⟩
      obtain ⟨i58, e58, hp⟩ := mlget_some hp
      refine q_get h (show lF 1103 11 5 = true from rfl) B56 e58 (fun b58 B58 => ?_)
      refine ⟨b58, rfl, ?_⟩
      refine ⟨h.ob (by decide) B58, ?_⟩
      obtain ⟨x62, S63, e63, L63, hp⟩ := mb_some hp
      refine q_X11_isGoodFor h A0 A1 A2 B58 e63 (fun D63 s63 h63 X63 => ?_)
      have X0 := X0.tr L0 X63
      have L0 := L0.tr L63
      refine ⟨fun c => ?_, fun c => ?_⟩
      · replace hp := mif_t hp c
        have A0_s63 := A0.up L63 X63
        have A1_s63 := A1.up L63 X63
        have A2_s63 := A2.up L63 X63
        exact ih _ _ _ _ _ _ _ _ _ _ h63 L0 X0 A0_s63 A1_s63 A2_s63 hp
      · replace hp := mif_f hp c
        refine ⟨FU, ?_⟩
        have A0_s63 := A0.up L63 X63
        have A1_s63 := A1.up L63 X63
        have A2_s63 := A2.up L63 X63
        exact q_X11_piecesGoodFor_41 hq ih FU _ _ _ _ _ _ _ _ _ _ _ h63 L0 X0 A0_s63 A1_s63 A2_s63 hp
set_option maxRecDepth 100000 in
set_option maxHeartbeats 1000000 in
theorem q_X11_piecesGoodFor {D : Nat → Nat → Nat} {σ : St} {S S' : Ss} {a0 : Nat} {a1 : Nat} {i1 : Nat} {a2 : Nat} {i2 : Nat} {r : Int32} (h : RC D σ S) (A0 : AT D S 11 0 a0) (A1 : AT D S 7 i1 a1) (A2 : AT D S 3 i2 a2) (hp : (f_X11_piecesGoodFor i1 i2).1 S = some (r, S')) {Q : Int32 → St → Prop} (hq : ∀ D' τ, RC D' τ S' → DX S D D' → Q r τ) : w_X11_piecesGoodFor a0 a1 a2 σ Q := by
  have L0 := zle.rf S
  have X0 := DX.rf S D
  replace hq : ∀ D9 σ9 S9 x, RC D9 σ9 S9 → zle S S9 → DX S D D9 → (mret x).1 S9 = some (r, S') → Q x σ9 := fun D9 σ9 S9 x h9 _ X9 e9 => by obtain ⟨rfl, rfl⟩ := mret_some e9; exact hq D9 σ9 h9 X9
  unfold f_X11_piecesGoodFor at hp
  unfold w_X11_piecesGoodFor
  refine ⟨FU, ?_⟩
  exact q_X11_piecesGoodFor_5 hq FU _ _ _ _ _ _ _ _ _ _ h L0 X0 A0 A1 A2 hp
set_option maxRecDepth 100000 in
set_option maxHeartbeats 1000000 in
theorem q_X11_piecesThatCame_67 {D0 : Nat → Nat → Nat} {S0 S' : Ss} {r : Int32} {Q : Int32 → St → Prop} (hq : ∀ D σ S x, RC D σ S → zle S0 S → DX S0 D0 D → (mret x).1 S = some (r, S') → Q x σ) {K31 : Nat → Int32 → Int32 → Option Nat → Int32 → Int32 → St → Prop} {LK31 : Int32 → Int32 → Option Nat → Int32 → Int32 → MM (Int32)} (hK31 : ∀ (D : Nat → Nat → Nat) (σ : St) (S : Ss) (a0 : Nat) (x1 : Int32) (x2 : Int32) (o3 : Option Nat) (r3 : Option Nat) (x4 : Int32) (x5 : Int32), RC D σ S → zle S0 S → DX S0 D0 D → AT D S 11 0 a0 → ATo D S 3 r3 o3 → (LK31 x1 x2 r3 x4 x5).1 S = some (r, S') → K31 a0 x1 x2 o3 x4 x5 σ) : ∀ (D : Nat → Nat → Nat) (σ : St) (S : Ss) (a0 : Nat) (x1 : Int32) (x2 : Int32) (o3 : Option Nat) (r3 : Option Nat) (x4 : Int32) (x5 : Int32) (xs0 : Int32), RC D σ S → zle S0 S → DX S0 D0 D → AT D S 11 0 a0 → ATo D S 3 r3 o3 → (f_X11_piecesThatCame_67 LK31 x1 x2 r3 x4 x5 xs0).1 S = some (r, S') → w_X11_piecesThatCame_67 Q K31 a0 x1 x2 o3 x4 x5 xs0 σ := by
  intro D σ S a0 x1 x2 o3 r3 x4 x5 xs0 h L0 X0 A0 A3 hp
  unfold f_X11_piecesThatCame_67 at hp
  unfold w_X11_piecesThatCame_67
  replace hp := mrd_some hp
  refine ⟨fun c => ?_, fun c => ?_⟩
  · replace hp := mif_f hp c
    exact hK31 _ _ _ _ _ _ _ _ _ _ h L0 X0 A0 A3 hp
  · replace hp := mif_t hp c
    intro o75 ho75
    obtain ⟨b75, p75, B75⟩ := h.cel 1110 11 rfl A0 ho75
    refine ⟨b75, p75, ?_⟩
    obtain ⟨x77, ex77, hp⟩ := mbo_some hp
    refine q_at h (show cF 1110 11 = true from rfl) B75 ex77 ?_
    intro x79 hx79
    obtain ⟨yx79, ex79, hp⟩ := mbo_some hp
    obtain rfl : yx79 = x79 := ex79.trans hx79.symm
    exact hK31 _ _ _ _ _ _ _ _ _ _ h L0 X0 A0 A3 hp
set_option maxRecDepth 100000 in
set_option maxHeartbeats 1000000 in
theorem q_X11_piecesThatCame_31 {D0 : Nat → Nat → Nat} {S0 S' : Ss} {r : Int32} {Q : Int32 → St → Prop} (hq : ∀ D σ S x, RC D σ S → zle S0 S → DX S0 D0 D → (mret x).1 S = some (r, S') → Q x σ) : ∀ (f : Nat) (D : Nat → Nat → Nat) (σ : St) (S : Ss) (a0 : Nat) (x1 : Int32) (x2 : Int32) (o3 : Option Nat) (r3 : Option Nat) (x4 : Int32) (x5 : Int32), RC D σ S → zle S0 S → DX S0 D0 D → AT D S 11 0 a0 → ATo D S 3 r3 o3 → (f_X11_piecesThatCame_31 f x1 x2 r3 x4 x5).1 S = some (r, S') → w_X11_piecesThatCame_31 Q  f a0 x1 x2 o3 x4 x5 σ := by
  intro f
  induction f with
  | zero => intro D σ S a0 x1 x2 o3 r3 x4 x5 h L0 X0 A0 A3 hp; cases hp
  | succ f ih =>
    intro D σ S a0 x1 x2 o3 r3 x4 x5 h L0 X0 A0 A3 hp
    unfold f_X11_piecesThatCame_31 at hp
    unfold w_X11_piecesThatCame_31
    replace hp := mrd_some hp
    intro o61 ho61
    obtain ⟨b61, p61, B61⟩ := h.lis 1103 11 5 rfl A0 ((lv_o (by decide)).mp A0.1) ho61
    refine ⟨b61, p61, ?_⟩
    obtain ⟨x63, ex63, hp⟩ := mbo_some hp
    refine q_size h (show lF 1103 11 5 = true from rfl) B61 ex63 ?_
    refine ⟨fun c => ?_, fun c => ?_⟩
    · replace hp := mif_t hp c
      exact hq _ _ _ _ h L0 X0 hp
    · replace hp := mif_f hp c
      intro o66 ho66
      obtain ⟨b66, p66, B66⟩ := h.lis 1103 11 5 rfl A0 ((lv_o (by decide)).mp A0.1) ho66
      refine ⟨b66, p66, ?_⟩
      obtain ⟨i68, e68, hp⟩ := mlget_some hp
      refine q_get h (show lF 1103 11 5 = true from rfl) B66 e68 (fun b68 B68 => ?_)
      refine ⟨b68, rfl, ?_⟩
      refine ⟨h.ob (by decide) B68, ?_⟩
      intro o72 ho72
      obtain ⟨r72, e72, hp⟩ := mbo_some hp
      have B72 := h.refr 501 5 3 rfl B68
      rw [← ho72, ← e72] at B72
      refine ⟨fun c => ?_, fun c => ?_⟩
      · replace hp := mif_f hp (fun q => c ((h.oo (by decide) B72 A3).mpr q))
        exact q_X11_piecesThatCame_67 hq ih  _ _ _ _ _ _ _ _ _ _ _ h L0 X0 A0 A3 hp
      · replace hp := mif_t hp ((h.oo (by decide) B72 A3).mp c)
        exact q_X11_piecesThatCame_67 hq ih  _ _ _ _ _ _ _ _ _ _ _ h L0 X0 A0 A3 hp
set_option maxRecDepth 100000 in
set_option maxHeartbeats 1000000 in
theorem q_X11_piecesThatCame {D : Nat → Nat → Nat} {σ : St} {S S' : Ss} {a0 : Nat} {x1 : Int32} {x2 : Int32} {r : Int32} (h : RC D σ S) (A0 : AT D S 11 0 a0) (hp : (f_X11_piecesThatCame x1 x2).1 S = some (r, S')) {Q : Int32 → St → Prop} (hq : ∀ D' τ, RC D' τ S' → DX S D D' → Q r τ) : w_X11_piecesThatCame a0 x1 x2 σ Q := by
  have L0 := zle.rf S
  have X0 := DX.rf S D
  replace hq : ∀ D9 σ9 S9 x, RC D9 σ9 S9 → zle S S9 → DX S D D9 → (mret x).1 S9 = some (r, S') → Q x σ9 := fun D9 σ9 S9 x h9 _ X9 e9 => by obtain ⟨rfl, rfl⟩ := mret_some e9; exact hq D9 σ9 h9 X9
  unfold f_X11_piecesThatCame at hp
  unfold w_X11_piecesThatCame
  obtain ⟨x51, S52, e52, L52, hp⟩ := mb_some hp
  refine q_X11_isNotice h A0 e52 (fun D52 s52 h52 X52 => ?_)
  have X0 := X0.tr L0 X52
  have L0 := L0.tr L52
  replace hp := mrd_some hp
  refine ⟨fun c => ?_, fun c => ?_⟩
  · replace hp := mif_f hp c
    have A0_s52 := A0.up L52 X52
    intro o54 ho54
    obtain ⟨b54, p54, B54⟩ := h52.lis 1105 11 6 rfl A0_s52 ((lv_o (by decide)).mp A0_s52.1) ho54
    refine ⟨b54, p54, ?_⟩
    obtain ⟨i56, e56, hp⟩ := mlget_some hp
    refine q_get h52 (show lF 1105 11 6 = true from rfl) B54 e56 (fun b56 B56 => ?_)
    refine ⟨b56, rfl, ?_⟩
    refine ⟨h52.ob (by decide) B56, ?_⟩
    intro o60 ho60
    obtain ⟨r60, e60, hp⟩ := mbo_some hp
    have B60 := h52.refr 600 6 3 rfl B56
    rw [← ho60, ← e60] at B60
    refine ⟨FU, ?_⟩
    exact q_X11_piecesThatCame_31 hq FU _ _ _ _ _ _ _ _ _ _ h52 L0 X0 A0_s52 B60 hp
  · replace hp := mif_t hp c
    exact hq _ _ _ _ h52 L0 X0 hp
set_option maxRecDepth 100000 in
set_option maxHeartbeats 1000000 in
theorem q_X11_slot {D : Nat → Nat → Nat} {σ : St} {S S' : Ss} {a0 : Nat} {x1 : Int32} {x2 : Int32} {x3 : Int32} {r : Nat × Int32} (h : RC D σ S) (A0 : AT D S 11 0 a0) (hp : (f_X11_slot x1 x2 x3).1 S = some (r, S')) {k n : Nat} (hk : zN S' 61 ≤ zN S 61 + k) (hn : zN S' 62 ≤ zN S 62 + n) {Q : St → Prop} (hq : ∀ D' τ, RC D' τ S' → DX S D D' → r.1 = 0 → Q τ) {Y : Nat → St → Prop} (hy : ∀ D' τ u, RC D' τ S' → DX S D D' → r.1 = u → ¬ u = 0 → Y u τ) : w_X11_slot k n a0 x1 x2 x3 σ Q Y := by
  have L0 := zle.rf S
  have X0 := DX.rf S D
  replace hq : ∀ D9 σ9 S9, RC D9 σ9 S9 → zle S S9 → DX S D D9 → (mret (0, 0)).1 S9 = some (r, S') → Q σ9 := fun D9 σ9 S9 h9 _ X9 e9 => by obtain ⟨rfl, rfl⟩ := mret_some e9; exact hq D9 σ9 h9 X9 rfl
  replace hy : ∀ D9 σ9 S9 u, RC D9 σ9 S9 → zle S S9 → DX S D D9 → (mthr u).1 S9 = some (r, S') → ¬ u = 0 → Y u σ9 := fun D9 σ9 S9 u h9 _ X9 e9 n9 => by cases e9; exact hy D9 σ9 u (h9.cost _ _) X9 rfl n9
  unfold f_X11_slot at hp
  unfold w_X11_slot
  obtain ⟨x51, S52, e52, L52, hp⟩ := mb_some hp
  refine q_X11_isSlot h  e52 (fun D52 s52 h52 X52 => ?_)
  have hk := bup hk (L52 61)
  have hn := bup hn (L52 62)
  have X0 := X0.tr L0 X52
  have L0 := L0.tr L52
  refine ⟨fun c => ?_, fun c => ?_⟩
  · replace hp := mif_f hp c
    obtain ⟨x54, S55, e55, L55, hp⟩ := mb_some hp
    refine q_X11_isWithin h52  e55 (fun D55 s55 h55 X55 => ?_)
    have hk := bup hk (L55 61)
    have hn := bup hn (L55 62)
    have X0 := X0.tr L0 X55
    have L0 := L0.tr L55
    refine ⟨fun c => ?_, fun c => ?_⟩
    · replace hp := mif_t hp c
      have hb := mthr_b hp hk hn
      exact ⟨hb.1, hb.2, hy _ _ _ _ h55 L0 X0 hp (by decide)⟩
    · replace hp := mif_f hp c
      obtain ⟨x57, S58, e58, L58, hp⟩ := mb_some hp
      refine q_X11_isWithin h55  e58 (fun D58 s58 h58 X58 => ?_)
      have hk := bup hk (L58 61)
      have hn := bup hn (L58 62)
      have X0 := X0.tr L0 X58
      have L0 := L0.tr L58
      replace hp := mrd_some hp
      refine ⟨fun c => ?_, fun c => ?_⟩
      · replace hp := mif_f hp c
        have A0_s52 := A0.up L52 X52
        have A0_s55 := A0_s52.up L55 X55
        have A0_s58 := A0_s55.up L58 X58
        intro o60 ho60
        obtain ⟨b60, p60, B60⟩ := h58.arr 1100 9 rfl A0_s58 ho60
        refine ⟨b60, p60, ?_⟩
        obtain ⟨v_1, hp⟩ := mix_some hp
        refine ⟨by rw [h58.aln 1100 9 rfl B60]; exact v_1, ?_⟩
        intro o63 ho63
        have C63 := h58.ael 1100 9 rfl B60 v_1
        rw [← ho63] at C63
        obtain ⟨b63, p63, B63⟩ := C63.so rfl
        refine ⟨b63, p63, ?_⟩
        intro o65 ho65
        obtain ⟨r65, e65, hp⟩ := mbo_some hp
        have B65 := h58.refr 902 9 3 rfl B63
        rw [← ho65, ← e65] at B65
        refine ⟨fun c => ?_, fun a67 c => ?_⟩
        · replace hp := mcase_n hp (B65.no c)
          obtain ⟨x68, S69, e69, L69, hp⟩ := mb_some hp
          refine q_X11_isUsed h58 A0_s58 e69 (fun D69 s69 h69 X69 => ?_)
          have hk := bup hk (L69 61)
          have hn := bup hn (L69 62)
          have X0 := X0.tr L0 X69
          have L0 := L0.tr L69
          refine ⟨fun c => ?_, fun c => ?_⟩
          · replace hp := mif_t hp c
            have A0_s69 := A0_s58.up L69 X69
            intro o71 ho71
            obtain ⟨b71, p71, B71⟩ := h69.arr 1100 9 rfl A0_s69 ho71
            refine ⟨b71, p71, ?_⟩
            obtain ⟨v_2, hp⟩ := mix_some hp
            refine ⟨by rw [h69.aln 1100 9 rfl B71]; exact v_2, ?_⟩
            intro o74 ho74
            have C74 := h69.ael 1100 9 rfl B71 v_2
            rw [← ho74] at C74
            obtain ⟨b74, p74, B74⟩ := C74.so rfl
            refine ⟨b74, p74, ?_⟩
            intro s76 es76
            obtain ⟨S76, z76, L76, hp⟩ := mst_some hp
            have h76 := h69.wI (rfl : 900 / 100 = 9) (by decide) (by decide) B74 es76
            rw [z76] at h76
            have L0 := L0.tr L76
            have hk := bup hk (L76 61)
            have hn := bup hn (L76 62)
            have A0_s76 := A0_s69.up L76 (DX.rf _ _)
            intro o77 ho77
            obtain ⟨b77, p77, B77⟩ := h76.arr 1100 9 rfl A0_s76 ho77
            refine ⟨b77, p77, ?_⟩
            obtain ⟨v_3, hp⟩ := mix_some hp
            refine ⟨by rw [h76.aln 1100 9 rfl B77]; exact v_3, ?_⟩
            intro o80 ho80
            have C80 := h76.ael 1100 9 rfl B77 v_3
            rw [← ho80] at C80
            obtain ⟨b80, p80, B80⟩ := C80.so rfl
            refine ⟨b80, p80, ?_⟩
            intro s82 es82
            obtain ⟨S82, z82, L82, hp⟩ := mst_some hp
            have h82 := h76.wI (rfl : 901 / 100 = 9) (by decide) (by decide) B80 es82
            rw [z82] at h82
            have L0 := L0.tr L82
            have hk := bup hk (L82 61)
            have hn := bup hn (L82 62)
            exact hq _ _ _ h82 L0 X0 hp
          · replace hp := mif_f hp c
            have hb := mthr_b hp hk hn
            exact ⟨hb.1, hb.2, hy _ _ _ _ h69 L0 X0 hp (by decide)⟩
        · obtain ⟨i67, e67, B67⟩ := B65.sa c
          replace hp := mcase_s hp e67
          have hb := mthr_b hp hk hn
          exact ⟨hb.1, hb.2, hy _ _ _ _ h58 L0 X0 hp (by decide)⟩
      · replace hp := mif_t hp c
        have hb := mthr_b hp hk hn
        exact ⟨hb.1, hb.2, hy _ _ _ _ h58 L0 X0 hp (by decide)⟩
  · replace hp := mif_t hp c
    have hb := mthr_b hp hk hn
    exact ⟨hb.1, hb.2, hy _ _ _ _ h52 L0 X0 hp (by decide)⟩
set_option maxRecDepth 100000 in
set_option maxHeartbeats 1000000 in
theorem q_X11_taskAt {D : Nat → Nat → Nat} {σ : St} {S S' : Ss} {a0 : Nat} {x1 : Int32} {r : Nat × Int32} (h : RC D σ S) (A0 : AT D S 11 0 a0) (hp : (f_X11_taskAt x1).1 S = some (r, S')) {k n : Nat} (hk : zN S' 61 ≤ zN S 61 + k) (hn : zN S' 62 ≤ zN S 62 + n) {Q : Int32 → St → Prop} (hq : ∀ D' τ, RC D' τ S' → DX S D D' → r.1 = 0 → Q r.2 τ) {Y : Nat → St → Prop} (hy : ∀ D' τ u, RC D' τ S' → DX S D D' → r.1 = u → ¬ u = 0 → Y u τ) : w_X11_taskAt k n a0 x1 σ Q Y := by
  have L0 := zle.rf S
  have X0 := DX.rf S D
  replace hq : ∀ D9 σ9 S9 x, RC D9 σ9 S9 → zle S S9 → DX S D D9 → (mret (0, x)).1 S9 = some (r, S') → Q x σ9 := fun D9 σ9 S9 x h9 _ X9 e9 => by obtain ⟨rfl, rfl⟩ := mret_some e9; exact hq D9 σ9 h9 X9 rfl
  replace hy : ∀ D9 σ9 S9 u, RC D9 σ9 S9 → zle S S9 → DX S D D9 → (mthr u).1 S9 = some (r, S') → ¬ u = 0 → Y u σ9 := fun D9 σ9 S9 u h9 _ X9 e9 n9 => by cases e9; exact hy D9 σ9 u (h9.cost _ _) X9 rfl n9
  unfold f_X11_taskAt at hp
  unfold w_X11_taskAt
  obtain ⟨x51, S52, e52, L52, hp⟩ := mb_some hp
  refine q_X11_isTask h A0 e52 (fun D52 s52 h52 X52 => ?_)
  have hk := bup hk (L52 61)
  have hn := bup hn (L52 62)
  have X0 := X0.tr L0 X52
  have L0 := L0.tr L52
  replace hp := mrd_some hp
  refine ⟨fun c => ?_, fun c => ?_⟩
  · replace hp := mif_f hp c
    have A0_s52 := A0.up L52 X52
    intro o54 ho54
    obtain ⟨b54, p54, B54⟩ := h52.lis 1108 11 10 rfl A0_s52 ((lv_o (by decide)).mp A0_s52.1) ho54
    refine ⟨b54, p54, ?_⟩
    obtain ⟨i56, e56, hp⟩ := mlget_some hp
    refine q_get h52 (show lF 1108 11 10 = true from rfl) B54 e56 (fun b56 B56 => ?_)
    refine ⟨b56, rfl, ?_⟩
    refine ⟨h52.ob (by decide) B56, ?_⟩
    rw [h52.int 1001 10 rfl (by decide) B56, h52.int 1005 10 rfl (by decide) B56, h52.int 1004 10 rfl (by decide) B56]
    exact hq _ _ _ _ h52 L0 X0 hp
  · replace hp := mif_t hp c
    have hb := mthr_b hp hk hn
    exact ⟨hb.1, hb.2, hy _ _ _ _ h52 L0 X0 hp (by decide)⟩
set_option maxRecDepth 100000 in
set_option maxHeartbeats 1000000 in
theorem q_X7_init {D : Nat → Nat → Nat} {σ : St} {S S' : Ss} {a0 : Nat} {i0 : Nat} {x1 : Int32} {x2 : Int32} {x3 : Int32} {x4 : Int32} {r : Unit} (h : RC D σ S) (A0 : AT D S 7 i0 a0) (hp : (f_X7_init i0 x1 x2 x3 x4).1 S = some (r, S')) {k n : Nat} (hk : zN S' 61 ≤ zN S 61 + k) (hn : zN S' 62 ≤ zN S 62 + n) {Q : St → Prop} (hq : ∀ D' τ, RC D' τ S' → DX S D D' → Q τ) : w_X7_init k n a0 x1 x2 x3 x4 σ Q := by
  have L0 := zle.rf S
  have X0 := DX.rf S D
  replace hq : ∀ D9 σ9 S9, RC D9 σ9 S9 → zle S S9 → DX S D D9 → (mret ()).1 S9 = some (r, S') → Q σ9 := fun D9 σ9 S9 h9 _ X9 e9 => by obtain ⟨rfl, rfl⟩ := mret_some e9; exact hq D9 σ9 h9 X9
  unfold f_X7_init at hp
  unfold w_X7_init
  obtain ⟨G59, S59, z59, L59, hp⟩ := mnl_some hp
  have M59 := mle hp
  refine q_nl h G59 A0 (by rw [z59]; exact Nat.le_trans (M59 61) hk) (by rw [z59]; exact Nat.le_trans (M59 62) hn) (fun D59 s59 k51 n52 h59 X59 e159 e259 => ?_)
  rw [z59] at h59
  have hk : zN S' 61 ≤ zN S59 61 + k51 := by rw [← z59]; exact e159 _ hk
  have hn : zN S' 62 ≤ zN S59 62 + n52 := by rw [← z59]; exact e259 _ hn
  have X0 := X0.tr L0 X59
  have L0 := L0.tr L59
  intro s60 es60
  have A0_s59 := A0.up L59 X59
  obtain ⟨S60, z60, L60, hp⟩ := mst_some hp
  have h60 := h59.wI (rfl : 700 / 100 = 7) (by decide) (by decide) A0_s59 es60
  rw [z60] at h60
  have L0 := L0.tr L60
  have hk := bup hk (L60 61)
  have hn := bup hn (L60 62)
  intro s61 es61
  have A0_s60 := A0_s59.up L60 (DX.rf _ _)
  obtain ⟨S61, z61, L61, hp⟩ := mst_some hp
  have h61 := h60.wI (rfl : 701 / 100 = 7) (by decide) (by decide) A0_s60 es61
  rw [z61] at h61
  have L0 := L0.tr L61
  have hk := bup hk (L61 61)
  have hn := bup hn (L61 62)
  obtain ⟨g_1, hp⟩ := mgd_some hp
  refine ⟨of_decide_eq_true g_1, ?_⟩
  intro s62 es62
  have A0_s61 := A0_s60.up L61 (DX.rf _ _)
  obtain ⟨S62, z62, L62, hp⟩ := mst_some hp
  have h62 := h61.wI (rfl : 702 / 100 = 7) (by decide) (by decide) A0_s61 es62
  rw [z62] at h62
  have L0 := L0.tr L62
  have hk := bup hk (L62 61)
  have hn := bup hn (L62 62)
  intro s64 es64
  have A0_s62 := A0_s61.up L62 (DX.rf _ _)
  obtain ⟨S64, z64, L64, hp⟩ := mst_some hp
  have h64 := h62.wI (rfl : 703 / 100 = 7) (by decide) (by decide) A0_s62 es64
  rw [z64] at h64
  have L0 := L0.tr L64
  have hk := bup hk (L64 61)
  have hn := bup hn (L64 62)
  exact hq _ _ _ h64 L0 X0 hp
set_option maxRecDepth 100000 in
set_option maxHeartbeats 1000000 in
theorem q_X8_firstTask_40 {D0 : Nat → Nat → Nat} {S0 S' : Ss} {r : Option Nat} {Q : Option Nat → St → Prop} (hq : ∀ D σ S x o, RC D σ S → zle S0 S → DX S0 D0 D → ATo D S 10 x o → (mret x).1 S = some (r, S') → Q o σ) : ∀ (D : Nat → Nat → Nat) (σ : St) (S : Ss) (a0 : Nat) (i0 : Nat), RC D σ S → zle S0 S → DX S0 D0 D → AT D S 8 i0 a0 → (f_X8_firstTask_40 i0).1 S = some (r, S') → w_X8_firstTask_40 Q  a0 σ := by
  intro D σ S a0 i0 h L0 X0 A0 hp
  unfold f_X8_firstTask_40 at hp
  unfold w_X8_firstTask_40
  replace hp := mrd_some hp
  intro o56 ho56
  obtain ⟨b56, p56, B56⟩ := h.lis 800 8 10 rfl A0 ((lv_o (by decide)).mp A0.1) ho56
  refine ⟨b56, p56, ?_⟩
  obtain ⟨x58, ex58, hp⟩ := mbo_some hp
  refine q_isE h (show lF 800 8 10 = true from rfl) B56 ex58 ?_
  refine ⟨fun c => ?_, fun c => ?_⟩
  · replace hp := mif_t hp c
    intro o61 ho61
    obtain ⟨b61, p61, B61⟩ := h.lis 800 8 10 rfl A0 ((lv_o (by decide)).mp A0.1) ho61
    refine ⟨b61, p61, ?_⟩
    obtain ⟨i63, e63, hp⟩ := mlget_some hp
    refine q_get h (show lF 800 8 10 = true from rfl) B61 e63 (fun b63 B63 => ?_)
    refine ⟨b63, rfl, ?_⟩
    refine ⟨h.ob (by decide) B63, ?_⟩
    exact hq _ _ _ _ _ h L0 X0 (B63.sm) hp
  · replace hp := mif_f hp c
    exact hq _ _ _ _ _ h L0 X0 ATo.nn hp
set_option maxRecDepth 100000 in
set_option maxHeartbeats 1000000 in
theorem q_X8_firstTask_0 {D0 : Nat → Nat → Nat} {S0 S' : Ss} {r : Option Nat} {Q : Option Nat → St → Prop} (hq : ∀ D σ S x o, RC D σ S → zle S0 S → DX S0 D0 D → ATo D S 10 x o → (mret x).1 S = some (r, S') → Q o σ) : ∀ (f : Nat) (D : Nat → Nat → Nat) (σ : St) (S : Ss) (a0 : Nat) (i0 : Nat), RC D σ S → zle S0 S → DX S0 D0 D → AT D S 8 i0 a0 → (f_X8_firstTask_0 f i0).1 S = some (r, S') → w_X8_firstTask_0 Q  f a0 σ := by
  intro f
  induction f with
  | zero => intro D σ S a0 i0 h L0 X0 A0 hp; cases hp
  | succ f ih =>
    intro D σ S a0 i0 h L0 X0 A0 hp
    unfold f_X8_firstTask_0 at hp
    unfold w_X8_firstTask_0
    replace hp := mrd_some hp
    intro o51 ho51
    obtain ⟨b51, p51, B51⟩ := h.lis 800 8 10 rfl A0 ((lv_o (by decide)).mp A0.1) ho51
    refine ⟨b51, p51, ?_⟩
    obtain ⟨x53, ex53, hp⟩ := mbo_some hp
    refine q_isE h (show lF 800 8 10 = true from rfl) B51 ex53 ?_
    refine ⟨fun c => ?_, fun c => ?_⟩
    · replace hp := mif_f hp c
      exact q_X8_firstTask_40 hq  _ _ _ _ _ h L0 X0 A0 hp
    · replace hp := mif_t hp c
      intro o67 ho67
      obtain ⟨b67, p67, B67⟩ := h.lis 800 8 10 rfl A0 ((lv_o (by decide)).mp A0.1) ho67
      refine ⟨b67, p67, ?_⟩
      obtain ⟨i69, e69, hp⟩ := mlget_some hp
      refine q_get h (show lF 800 8 10 = true from rfl) B67 e69 (fun b69 B69 => ?_)
      refine ⟨b69, rfl, ?_⟩
      refine ⟨h.ob (by decide) B69, ?_⟩
      refine ⟨fun c => ?_, fun c => ?_⟩
      · rw [h.int 1005 10 rfl (by decide) B69] at c
        replace hp := mif_t hp c
        exact q_X8_firstTask_40 hq  _ _ _ _ _ h L0 X0 A0 hp
      · rw [h.int 1005 10 rfl (by decide) B69] at c
        replace hp := mif_f hp c
        intro o74 ho74
        obtain ⟨b74, p74, B74⟩ := h.lis 800 8 10 rfl A0 ((lv_o (by decide)).mp A0.1) ho74
        refine ⟨b74, p74, ?_⟩
        obtain ⟨i76, e76, S77, z77, L77, hp⟩ := mlrem_some hp
        refine q_lrem h (show lF 800 8 10 = true from rfl) B74 e76 (fun s77 b76 h77 B76 => ?_)
        rw [z77] at h77
        have L0 := L0.tr L77
        have A0_s77 := A0.up L77 (DX.rf _ _)
        exact ih _ _ _ _ _ h77 L0 X0 A0_s77 hp
set_option maxRecDepth 100000 in
set_option maxHeartbeats 1000000 in
theorem q_X8_firstTask {D : Nat → Nat → Nat} {σ : St} {S S' : Ss} {a0 : Nat} {i0 : Nat} {r : Option Nat} (h : RC D σ S) (A0 : AT D S 8 i0 a0) (hp : (f_X8_firstTask i0).1 S = some (r, S')) {Q : Option Nat → St → Prop} (hq : ∀ D' τ o, RC D' τ S' → DX S D D' → ATo D' S' 10 r o → Q o τ) : w_X8_firstTask a0 σ Q := by
  have L0 := zle.rf S
  have X0 := DX.rf S D
  replace hq : ∀ D9 σ9 S9 x o, RC D9 σ9 S9 → zle S S9 → DX S D D9 → ATo D9 S9 10 x o → (mret x).1 S9 = some (r, S') → Q o σ9 := fun D9 σ9 S9 x o h9 _ X9 B9 e9 => by obtain ⟨rfl, rfl⟩ := mret_some e9; exact hq D9 σ9 o h9 X9 B9
  unfold f_X8_firstTask at hp
  unfold w_X8_firstTask
  refine ⟨FU, ?_⟩
  exact q_X8_firstTask_0 hq FU _ _ _ _ _ h L0 X0 A0 hp
set_option maxRecDepth 100000 in
set_option maxHeartbeats 1000000 in
theorem q_X8_tasksInRow_4 {D0 : Nat → Nat → Nat} {S0 S' : Ss} {r : Int32} {Q : Int32 → St → Prop} (hq : ∀ D σ S x, RC D σ S → zle S0 S → DX S0 D0 D → (mret x).1 S = some (r, S') → Q x σ) : ∀ (f : Nat) (D : Nat → Nat → Nat) (σ : St) (S : Ss) (a0 : Nat) (i0 : Nat) (x1 : Int32) (x2 : Int32), RC D σ S → zle S0 S → DX S0 D0 D → AT D S 8 i0 a0 → (f_X8_tasksInRow_4 f i0 x1 x2).1 S = some (r, S') → w_X8_tasksInRow_4 Q  f a0 x1 x2 σ := by
  intro f
  induction f with
  | zero => intro D σ S a0 i0 x1 x2 h L0 X0 A0 hp; cases hp
  | succ f ih =>
    intro D σ S a0 i0 x1 x2 h L0 X0 A0 hp
    unfold f_X8_tasksInRow_4 at hp
    unfold w_X8_tasksInRow_4
    replace hp := mrd_some hp
    intro o51 ho51
    obtain ⟨b51, p51, B51⟩ := h.lis 800 8 10 rfl A0 ((lv_o (by decide)).mp A0.1) ho51
    refine ⟨b51, p51, ?_⟩
    obtain ⟨x53, ex53, hp⟩ := mbo_some hp
    refine q_size h (show lF 800 8 10 = true from rfl) B51 ex53 ?_
    refine ⟨fun c => ?_, fun c => ?_⟩
    · replace hp := mif_t hp c
      exact hq _ _ _ _ h L0 X0 hp
    · replace hp := mif_f hp c
      intro o56 ho56
      obtain ⟨b56, p56, B56⟩ := h.lis 800 8 10 rfl A0 ((lv_o (by decide)).mp A0.1) ho56
      refine ⟨b56, p56, ?_⟩
      obtain ⟨i58, e58, hp⟩ := mlget_some hp
      refine q_get h (show lF 800 8 10 = true from rfl) B56 e58 (fun b58 B58 => ?_)
      refine ⟨b58, rfl, ?_⟩
      refine ⟨h.ob (by decide) B58, ?_⟩
      refine ⟨fun c => ?_, fun c => ?_⟩
      · rw [h.int 1005 10 rfl (by decide) B58] at c
        replace hp := mif_f hp c
        exact ih _ _ _ _ _ _ _ h L0 X0 A0 hp
      · rw [h.int 1005 10 rfl (by decide) B58] at c
        replace hp := mif_t hp c
        exact ih _ _ _ _ _ _ _ h L0 X0 A0 hp
set_option maxRecDepth 100000 in
set_option maxHeartbeats 1000000 in
theorem q_X8_tasksInRow {D : Nat → Nat → Nat} {σ : St} {S S' : Ss} {a0 : Nat} {i0 : Nat} {r : Int32} (h : RC D σ S) (A0 : AT D S 8 i0 a0) (hp : (f_X8_tasksInRow i0).1 S = some (r, S')) {Q : Int32 → St → Prop} (hq : ∀ D' τ, RC D' τ S' → DX S D D' → Q r τ) : w_X8_tasksInRow a0 σ Q := by
  have L0 := zle.rf S
  have X0 := DX.rf S D
  replace hq : ∀ D9 σ9 S9 x, RC D9 σ9 S9 → zle S S9 → DX S D D9 → (mret x).1 S9 = some (r, S') → Q x σ9 := fun D9 σ9 S9 x h9 _ X9 e9 => by obtain ⟨rfl, rfl⟩ := mret_some e9; exact hq D9 σ9 h9 X9
  unfold f_X8_tasksInRow at hp
  unfold w_X8_tasksInRow
  refine ⟨FU, ?_⟩
  exact q_X8_tasksInRow_4 hq FU _ _ _ _ _ _ _ h L0 X0 A0 hp
set_option maxRecDepth 100000 in
set_option maxHeartbeats 1000000 in
theorem q_X11_boxAt {D : Nat → Nat → Nat} {σ : St} {S S' : Ss} {a0 : Nat} {x1 : Int32} {x2 : Int32} {r : Nat × Int32} (h : RC D σ S) (A0 : AT D S 11 0 a0) (hp : (f_X11_boxAt x1 x2).1 S = some (r, S')) {k n : Nat} (hk : zN S' 61 ≤ zN S 61 + k) (hn : zN S' 62 ≤ zN S 62 + n) {Q : Int32 → St → Prop} (hq : ∀ D' τ, RC D' τ S' → DX S D D' → r.1 = 0 → Q r.2 τ) {Y : Nat → St → Prop} (hy : ∀ D' τ u, RC D' τ S' → DX S D D' → r.1 = u → ¬ u = 0 → Y u τ) : w_X11_boxAt k n a0 x1 x2 σ Q Y := by
  have L0 := zle.rf S
  have X0 := DX.rf S D
  replace hq : ∀ D9 σ9 S9 x, RC D9 σ9 S9 → zle S S9 → DX S D D9 → (mret (0, x)).1 S9 = some (r, S') → Q x σ9 := fun D9 σ9 S9 x h9 _ X9 e9 => by obtain ⟨rfl, rfl⟩ := mret_some e9; exact hq D9 σ9 h9 X9 rfl
  replace hy : ∀ D9 σ9 S9 u, RC D9 σ9 S9 → zle S S9 → DX S D D9 → (mthr u).1 S9 = some (r, S') → ¬ u = 0 → Y u σ9 := fun D9 σ9 S9 u h9 _ X9 e9 n9 => by cases e9; exact hy D9 σ9 u (h9.cost _ _) X9 rfl n9
  unfold f_X11_boxAt at hp
  unfold w_X11_boxAt
  obtain ⟨x51, S52, e52, L52, hp⟩ := mb_some hp
  refine q_X11_isOrder h A0 e52 (fun D52 s52 h52 X52 => ?_)
  have hk := bup hk (L52 61)
  have hn := bup hn (L52 62)
  have X0 := X0.tr L0 X52
  have L0 := L0.tr L52
  refine ⟨fun c => ?_, fun c => ?_⟩
  · replace hp := mif_f hp c
    have A0_s52 := A0.up L52 X52
    intro o54 ho54
    obtain ⟨b54, p54, B54⟩ := h52.lis 1106 11 7 rfl A0_s52 ((lv_o (by decide)).mp A0_s52.1) ho54
    refine ⟨b54, p54, ?_⟩
    obtain ⟨i56, e56, hp⟩ := mlget_some hp
    refine q_get h52 (show lF 1106 11 7 = true from rfl) B54 e56 (fun b56 B56 => ?_)
    refine ⟨b56, rfl, ?_⟩
    refine ⟨h52.ob (by decide) B56, ?_⟩
    obtain ⟨w61, S61, e61, L61, hp⟩ := mb_some hp
    refine q_X11_pack h52 A0_s52 B56 e61 (fun D61 s61 h61 X61 => ?_)
    have hk := bup hk (L61 61)
    have hn := bup hn (L61 62)
    have X0 := X0.tr L0 X61
    have L0 := L0.tr L61
    replace hp := mrd_some hp
    refine ⟨fun c => ?_, fun c => ?_⟩
    · replace hp := mif_t hp c
      have hb := mthr_b hp hk hn
      exact ⟨hb.1, hb.2, hy _ _ _ _ h61 L0 X0 hp (by decide)⟩
    · replace hp := mif_f hp c
      have A0_s61 := A0_s52.up L61 X61
      refine ⟨fun c => ?_, fun c => ?_⟩
      · rw [h61.int 1114 11 rfl (by decide) A0_s61] at c
        replace hp := mif_t hp c
        intro o64 ho64
        obtain ⟨b64, p64, B64⟩ := h61.cel 1113 11 rfl A0_s61 ho64
        refine ⟨b64, p64, ?_⟩
        obtain ⟨x66, ex66, hp⟩ := mbo_some hp
        refine q_at h61 (show cF 1113 11 = true from rfl) B64 ex66 ?_
        intro o68 ho68
        obtain ⟨b68, p68, B68⟩ := h61.cel 1113 11 rfl A0_s61 ho68
        refine ⟨b68, p68, ?_⟩
        obtain ⟨x70, ex70, hp⟩ := mbo_some hp
        refine q_at h61 (show cF 1113 11 = true from rfl) B68 ex70 ?_
        exact hq _ _ _ _ h61 L0 X0 hp
      · rw [h61.int 1114 11 rfl (by decide) A0_s61] at c
        replace hp := mif_f hp c
        have hb := mthr_b hp hk hn
        exact ⟨hb.1, hb.2, hy _ _ _ _ h61 L0 X0 hp (by decide)⟩
  · replace hp := mif_t hp c
    have hb := mthr_b hp hk hn
    exact ⟨hb.1, hb.2, hy _ _ _ _ h52 L0 X0 hp (by decide)⟩
set_option maxRecDepth 100000 in
set_option maxHeartbeats 1000000 in
theorem q_X11_boxes {D : Nat → Nat → Nat} {σ : St} {S S' : Ss} {a0 : Nat} {x1 : Int32} {r : Nat × Int32} (h : RC D σ S) (A0 : AT D S 11 0 a0) (hp : (f_X11_boxes x1).1 S = some (r, S')) {k n : Nat} (hk : zN S' 61 ≤ zN S 61 + k) (hn : zN S' 62 ≤ zN S 62 + n) {Q : Int32 → St → Prop} (hq : ∀ D' τ, RC D' τ S' → DX S D D' → r.1 = 0 → Q r.2 τ) {Y : Nat → St → Prop} (hy : ∀ D' τ u, RC D' τ S' → DX S D D' → r.1 = u → ¬ u = 0 → Y u τ) : w_X11_boxes k n a0 x1 σ Q Y := by
  have L0 := zle.rf S
  have X0 := DX.rf S D
  replace hq : ∀ D9 σ9 S9 x, RC D9 σ9 S9 → zle S S9 → DX S D D9 → (mret (0, x)).1 S9 = some (r, S') → Q x σ9 := fun D9 σ9 S9 x h9 _ X9 e9 => by obtain ⟨rfl, rfl⟩ := mret_some e9; exact hq D9 σ9 h9 X9 rfl
  replace hy : ∀ D9 σ9 S9 u, RC D9 σ9 S9 → zle S S9 → DX S D D9 → (mthr u).1 S9 = some (r, S') → ¬ u = 0 → Y u σ9 := fun D9 σ9 S9 u h9 _ X9 e9 n9 => by cases e9; exact hy D9 σ9 u (h9.cost _ _) X9 rfl n9
  unfold f_X11_boxes at hp
  unfold w_X11_boxes
  obtain ⟨x51, S52, e52, L52, hp⟩ := mb_some hp
  refine q_X11_isOrder h A0 e52 (fun D52 s52 h52 X52 => ?_)
  have hk := bup hk (L52 61)
  have hn := bup hn (L52 62)
  have X0 := X0.tr L0 X52
  have L0 := L0.tr L52
  refine ⟨fun c => ?_, fun c => ?_⟩
  · replace hp := mif_f hp c
    have A0_s52 := A0.up L52 X52
    intro o54 ho54
    obtain ⟨b54, p54, B54⟩ := h52.lis 1106 11 7 rfl A0_s52 ((lv_o (by decide)).mp A0_s52.1) ho54
    refine ⟨b54, p54, ?_⟩
    obtain ⟨i56, e56, hp⟩ := mlget_some hp
    refine q_get h52 (show lF 1106 11 7 = true from rfl) B54 e56 (fun b56 B56 => ?_)
    refine ⟨b56, rfl, ?_⟩
    refine ⟨h52.ob (by decide) B56, ?_⟩
    obtain ⟨w61, S61, e61, L61, hp⟩ := mb_some hp
    refine q_X11_pack h52 A0_s52 B56 e61 (fun D61 s61 h61 X61 => ?_)
    have hk := bup hk (L61 61)
    have hn := bup hn (L61 62)
    have X0 := X0.tr L0 X61
    have L0 := L0.tr L61
    replace hp := mrd_some hp
    have A0_s61 := A0_s52.up L61 X61
    rw [h61.int 1114 11 rfl (by decide) A0_s61]
    exact hq _ _ _ _ h61 L0 X0 hp
  · replace hp := mif_t hp c
    have hb := mthr_b hp hk hn
    exact ⟨hb.1, hb.2, hy _ _ _ _ h52 L0 X0 hp (by decide)⟩
set_option maxRecDepth 100000 in
set_option maxHeartbeats 1000000 in
theorem q_X11_canBeWhole_29 {D0 : Nat → Nat → Nat} {S0 S' : Ss} {r : Int32} {Q : Int32 → St → Prop} (hq : ∀ D σ S x, RC D σ S → zle S0 S → DX S0 D0 D → (mret x).1 S = some (r, S') → Q x σ) {K11 : Nat → Nat → Option Nat → Int32 → Int32 → St → Prop} {LK11 : Nat → Int32 → Int32 → MM (Int32)} (hK11 : ∀ (D : Nat → Nat → Nat) (σ : St) (S : Ss) (a0 : Nat) (a1 : Nat) (i1 : Nat) (o2 : Option Nat) (x3 : Int32) (x4 : Int32), RC D σ S → zle S0 S → DX S0 D0 D → AT D S 11 0 a0 → AT D S 7 i1 a1 → (∃ b, o2 = some b ∧ AT D S 20000 1101 b) → (LK11 i1 x3 x4).1 S = some (r, S') → K11 a0 a1 o2 x3 x4 σ) : ∀ (f : Nat) (D : Nat → Nat → Nat) (σ : St) (S : Ss) (a0 : Nat) (a1 : Nat) (i1 : Nat) (o2 : Option Nat) (x3 : Int32) (x4 : Int32) (o5 : Option Nat) (r5 : Option Nat) (x6 : Int32) (x7 : Int32), RC D σ S → zle S0 S → DX S0 D0 D → AT D S 11 0 a0 → AT D S 7 i1 a1 → (∃ b, o2 = some b ∧ AT D S 20000 1101 b) → ATo D S 3 r5 o5 → (f_X11_canBeWhole_29 LK11 f i1 x3 x4 r5 x6 x7).1 S = some (r, S') → w_X11_canBeWhole_29 Q K11 f a0 a1 o2 x3 x4 o5 x6 x7 σ := by
  intro f
  induction f with
  | zero => intro D σ S a0 a1 i1 o2 x3 x4 o5 r5 x6 x7 h L0 X0 A0 A1 A2 A5 hp; cases hp
  | succ f ih =>
    intro D σ S a0 a1 i1 o2 x3 x4 o5 r5 x6 x7 h L0 X0 A0 A1 A2 A5 hp
    unfold f_X11_canBeWhole_29 at hp
    unfold w_X11_canBeWhole_29
    obtain ⟨b2, p2, A2⟩ := A2
    replace hp := mrd_some hp
    intro o58 ho58
    obtain ⟨g58, hp⟩ := mgd_some hp
    obtain ⟨b58, p58, B58⟩ := h.lis 704 7 4 rfl A1 (of_decide_eq_true g58) ho58
    refine ⟨b58, p58, ?_⟩
    obtain ⟨x60, ex60, hp⟩ := mbo_some hp
    refine q_size h (show lF 704 7 4 = true from rfl) B58 ex60 ?_
    refine ⟨fun c => ?_, fun c => ?_⟩
    · replace hp := mif_t hp c
      obtain ⟨i63, e63, hp⟩ := mopt_some hp
      obtain ⟨a63, p63, B63⟩ := A5.so e63
      refine ⟨a63, p63, ?_⟩
      obtain ⟨x64, S65, e65, L65, hp⟩ := mb_some hp
      refine q_X11_piecesGoodFor h A0 A1 B63 e65 (fun D65 s65 h65 X65 => ?_)
      have X0 := X0.tr L0 X65
      have L0 := L0.tr L65
      refine ⟨fun c => ?_, fun c => ?_⟩
      · replace hp := mif_t hp c
        have A0_s65 := A0.up L65 X65
        have A1_s65 := A1.up L65 X65
        have A2_s65 := A2.up L65 X65
        exact hK11 _ _ _ _ _ _ _ _ _ h65 L0 X0 A0_s65 A1_s65 ⟨_, p2, A2_s65⟩ hp
      · replace hp := mif_f hp c
        exact hq _ _ _ _ h65 L0 X0 hp
    · replace hp := mif_f hp c
      intro o67 ho67
      obtain ⟨g67, hp⟩ := mgd_some hp
      obtain ⟨b67, p67, B67⟩ := h.lis 704 7 4 rfl A1 (of_decide_eq_true g67) ho67
      refine ⟨b67, p67, ?_⟩
      obtain ⟨i69, e69, hp⟩ := mlget_some hp
      refine q_get h (show lF 704 7 4 = true from rfl) B67 e69 (fun b69 B69 => ?_)
      refine ⟨b69, rfl, ?_⟩
      refine ⟨h.ob (by decide) B69, ?_⟩
      intro o73 ho73
      obtain ⟨r73, e73, hp⟩ := mbo_some hp
      have B73 := h.refr 400 4 3 rfl B69
      rw [← ho73, ← e73] at B73
      refine ⟨fun c => ?_, fun c => ?_⟩
      · replace hp := mif_f hp (fun q => c ((h.oo (by decide) B73 A5).mpr q))
        intro x75 hx75
        obtain ⟨yx75, ex75, hp⟩ := mbo_some hp
        obtain rfl : yx75 = x75 := ex75.trans hx75.symm
        exact ih _ _ _ _ _ _ _ _ _ _ _ _ _ h L0 X0 A0 A1 ⟨_, p2, A2⟩ A5 hp
      · replace hp := mif_t hp ((h.oo (by decide) B73 A5).mp c)
        intro o76 ho76
        obtain ⟨g76, hp⟩ := mgd_some hp
        obtain ⟨b76, p76, B76⟩ := h.lis 704 7 4 rfl A1 (of_decide_eq_true g76) ho76
        refine ⟨b76, p76, ?_⟩
        obtain ⟨i78, e78, hp⟩ := mlget_some hp
        refine q_get h (show lF 704 7 4 = true from rfl) B76 e78 (fun b78 B78 => ?_)
        refine ⟨b78, rfl, ?_⟩
        refine ⟨h.ob (by decide) B78, ?_⟩
        obtain ⟨x82, S83, e83, L83, hp⟩ := mb_some hp
        refine q_X4_lacking h B78 e83 (fun D83 s83 h83 X83 => ?_)
        have X0 := X0.tr L0 X83
        have L0 := L0.tr L83
        intro x84 hx84
        obtain ⟨yx84, ex84, hp⟩ := mbo_some hp
        obtain rfl : yx84 = x84 := ex84.trans hx84.symm
        have A0_s83 := A0.up L83 X83
        have A1_s83 := A1.up L83 X83
        have A2_s83 := A2.up L83 X83
        have A5_s83 := A5.up L83 X83
        exact ih _ _ _ _ _ _ _ _ _ _ _ _ _ h83 L0 X0 A0_s83 A1_s83 ⟨_, p2, A2_s83⟩ A5_s83 hp
set_option maxRecDepth 100000 in
set_option maxHeartbeats 1000000 in
theorem q_X11_canBeWhole_11 {D0 : Nat → Nat → Nat} {S0 S' : Ss} {r : Int32} {Q : Int32 → St → Prop} (hq : ∀ D σ S x, RC D σ S → zle S0 S → DX S0 D0 D → (mret x).1 S = some (r, S') → Q x σ) : ∀ (f : Nat) (D : Nat → Nat → Nat) (σ : St) (S : Ss) (a0 : Nat) (a1 : Nat) (i1 : Nat) (o2 : Option Nat) (x3 : Int32) (x4 : Int32), RC D σ S → zle S0 S → DX S0 D0 D → AT D S 11 0 a0 → AT D S 7 i1 a1 → (∃ b, o2 = some b ∧ AT D S 20000 1101 b) → (f_X11_canBeWhole_11 f i1 x3 x4).1 S = some (r, S') → w_X11_canBeWhole_11 Q  f a0 a1 o2 x3 x4 σ := by
  intro f
  induction f with
  | zero => intro D σ S a0 a1 i1 o2 x3 x4 h L0 X0 A0 A1 A2 hp; cases hp
  | succ f ih =>
    intro D σ S a0 a1 i1 o2 x3 x4 h L0 X0 A0 A1 A2 hp
    unfold f_X11_canBeWhole_11 at hp
    unfold w_X11_canBeWhole_11
    obtain ⟨b2, p2, A2⟩ := A2
    refine ⟨fun c => ?_, fun c => ?_⟩
    · replace hp := mif_t hp c
      exact hq _ _ _ _ h L0 X0 hp
    · replace hp := mif_f hp c
      refine ⟨b2, p2, ?_⟩
      obtain ⟨v_1, hp⟩ := mix_some hp
      refine ⟨by rw [h.aln 1101 3 rfl A2]; exact v_1, ?_⟩
      intro o57 ho57
      have C57 := h.ael 1101 3 rfl A2 v_1
      rw [← ho57] at C57
      obtain ⟨b57, p57, B57⟩ := C57.so rfl
      refine ⟨FU, ?_⟩
      exact q_X11_canBeWhole_29 hq ih FU _ _ _ _ _ _ _ _ _ _ _ _ _ h L0 X0 A0 A1 ⟨_, rfl, A2⟩ (ato_k p57 B57) hp
set_option maxRecDepth 100000 in
set_option maxHeartbeats 1000000 in
theorem q_X11_canBeWhole {D : Nat → Nat → Nat} {σ : St} {S S' : Ss} {a0 : Nat} {a1 : Nat} {i1 : Nat} {r : Int32} (h : RC D σ S) (A0 : AT D S 11 0 a0) (A1 : AT D S 7 i1 a1) (hp : (f_X11_canBeWhole i1).1 S = some (r, S')) {Q : Int32 → St → Prop} (hq : ∀ D' τ, RC D' τ S' → DX S D D' → Q r τ) : w_X11_canBeWhole a0 a1 σ Q := by
  have L0 := zle.rf S
  have X0 := DX.rf S D
  replace hq : ∀ D9 σ9 S9 x, RC D9 σ9 S9 → zle S S9 → DX S D D9 → (mret x).1 S9 = some (r, S') → Q x σ9 := fun D9 σ9 S9 x h9 _ X9 e9 => by obtain ⟨rfl, rfl⟩ := mret_some e9; exact hq D9 σ9 h9 X9
  unfold f_X11_canBeWhole at hp
  unfold w_X11_canBeWhole
  intro o51 ho51
  obtain ⟨b51, p51, B51⟩ := h.arr 1101 3 rfl A0 ho51
  refine ⟨b51, p51, ?_⟩
  intro x53 hx53
  rw [h.aln 1101 3 rfl B51] at hx53
  obtain ⟨yx53, ex53, hp⟩ := mbo_some hp
  obtain rfl : yx53 = x53 := ex53.trans hx53.symm
  refine ⟨FU, ?_⟩
  exact q_X11_canBeWhole_11 hq FU _ _ _ _ _ _ _ _ _ h L0 X0 A0 A1 ⟨_, rfl, B51⟩ hp
set_option maxRecDepth 100000 in
set_option maxHeartbeats 1000000 in
theorem q_X11_close {D : Nat → Nat → Nat} {σ : St} {S S' : Ss} {a0 : Nat} {x1 : Int32} {r : Nat × Int32} (h : RC D σ S) (A0 : AT D S 11 0 a0) (hp : (f_X11_close x1).1 S = some (r, S')) {k n : Nat} (hk : zN S' 61 ≤ zN S 61 + k) (hn : zN S' 62 ≤ zN S 62 + n) {Q : Int32 → St → Prop} (hq : ∀ D' τ, RC D' τ S' → DX S D D' → r.1 = 0 → Q r.2 τ) {Y : Nat → St → Prop} (hy : ∀ D' τ u, RC D' τ S' → DX S D D' → r.1 = u → ¬ u = 0 → Y u τ) : w_X11_close k n a0 x1 σ Q Y := by
  have L0 := zle.rf S
  have X0 := DX.rf S D
  replace hq : ∀ D9 σ9 S9 x, RC D9 σ9 S9 → zle S S9 → DX S D D9 → (mret (0, x)).1 S9 = some (r, S') → Q x σ9 := fun D9 σ9 S9 x h9 _ X9 e9 => by obtain ⟨rfl, rfl⟩ := mret_some e9; exact hq D9 σ9 h9 X9 rfl
  replace hy : ∀ D9 σ9 S9 u, RC D9 σ9 S9 → zle S S9 → DX S D D9 → (mthr u).1 S9 = some (r, S') → ¬ u = 0 → Y u σ9 := fun D9 σ9 S9 u h9 _ X9 e9 n9 => by cases e9; exact hy D9 σ9 u (h9.cost _ _) X9 rfl n9
  unfold f_X11_close at hp
  unfold w_X11_close
  obtain ⟨x51, S52, e52, L52, hp⟩ := mb_some hp
  refine q_X11_isNotice h A0 e52 (fun D52 s52 h52 X52 => ?_)
  have hk := bup hk (L52 61)
  have hn := bup hn (L52 62)
  have X0 := X0.tr L0 X52
  have L0 := L0.tr L52
  replace hp := mrd_some hp
  refine ⟨fun c => ?_, fun c => ?_⟩
  · replace hp := mif_f hp c
    have A0_s52 := A0.up L52 X52
    intro o54 ho54
    obtain ⟨b54, p54, B54⟩ := h52.lis 1105 11 6 rfl A0_s52 ((lv_o (by decide)).mp A0_s52.1) ho54
    refine ⟨b54, p54, ?_⟩
    obtain ⟨i56, e56, hp⟩ := mlget_some hp
    refine q_get h52 (show lF 1105 11 6 = true from rfl) B54 e56 (fun b56 B56 => ?_)
    refine ⟨b56, rfl, ?_⟩
    refine ⟨h52.ob (by decide) B56, ?_⟩
    refine ⟨fun c => ?_, fun c => ?_⟩
    · rw [h52.int 602 6 rfl (by decide) B56] at c
      replace hp := mif_t hp c
      intro s61 es61
      obtain ⟨S61, z61, L61, hp⟩ := mst_some hp
      have h61 := h52.wI (rfl : 602 / 100 = 6) (by decide) (by decide) B56 es61
      rw [z61] at h61
      have L0 := L0.tr L61
      have hk := bup hk (L61 61)
      have hn := bup hn (L61 62)
      have A0_s61 := A0_s52.up L61 (DX.rf _ _)
      obtain ⟨x62, S63, e63, L63, hp⟩ := mb_some hp
      refine q_X11_piecesThatCame h61 A0_s61 e63 (fun D63 s63 h63 X63 => ?_)
      have hk := bup hk (L63 61)
      have hn := bup hn (L63 62)
      have X0 := X0.tr L0 X63
      have L0 := L0.tr L63
      replace hp := mrd_some hp
      have B56_s61 := B56.up L61 (DX.rf _ _)
      have B56_s63 := B56_s61.up L63 X63
      rw [h63.int 601 6 rfl (by decide) B56_s63]
      exact hq _ _ _ _ h63 L0 X0 hp
    · rw [h52.int 602 6 rfl (by decide) B56] at c
      replace hp := mif_f hp c
      have hb := mthr_b hp hk hn
      exact ⟨hb.1, hb.2, hy _ _ _ _ h52 L0 X0 hp (by decide)⟩
  · replace hp := mif_t hp c
    have hb := mthr_b hp hk hn
    exact ⟨hb.1, hb.2, hy _ _ _ _ h52 L0 X0 hp (by decide)⟩
set_option maxRecDepth 100000 in
set_option maxHeartbeats 1000000 in
theorem q_X11_comeBack {D : Nat → Nat → Nat} {σ : St} {S S' : Ss} {a0 : Nat} {x1 : Int32} {x2 : Int32} {x3 : Int32} {r : Nat × Int32} (h : RC D σ S) (A0 : AT D S 11 0 a0) (hp : (f_X11_comeBack x1 x2 x3).1 S = some (r, S')) {k n : Nat} (hk : zN S' 61 ≤ zN S 61 + k) (hn : zN S' 62 ≤ zN S 62 + n) {Q : Int32 → St → Prop} (hq : ∀ D' τ, RC D' τ S' → DX S D D' → r.1 = 0 → Q r.2 τ) {Y : Nat → St → Prop} (hy : ∀ D' τ u, RC D' τ S' → DX S D D' → r.1 = u → ¬ u = 0 → Y u τ) : w_X11_comeBack k n a0 x1 x2 x3 σ Q Y := by
  have L0 := zle.rf S
  have X0 := DX.rf S D
  replace hq : ∀ D9 σ9 S9 x, RC D9 σ9 S9 → zle S S9 → DX S D D9 → (mret (0, x)).1 S9 = some (r, S') → Q x σ9 := fun D9 σ9 S9 x h9 _ X9 e9 => by obtain ⟨rfl, rfl⟩ := mret_some e9; exact hq D9 σ9 h9 X9 rfl
  replace hy : ∀ D9 σ9 S9 u, RC D9 σ9 S9 → zle S S9 → DX S D D9 → (mthr u).1 S9 = some (r, S') → ¬ u = 0 → Y u σ9 := fun D9 σ9 S9 u h9 _ X9 e9 n9 => by cases e9; exact hy D9 σ9 u (h9.cost _ _) X9 rfl n9
  unfold f_X11_comeBack at hp
  unfold w_X11_comeBack
  obtain ⟨x51, S52, e52, L52, hp⟩ := mb_some hp
  refine q_X11_isOrder h A0 e52 (fun D52 s52 h52 X52 => ?_)
  have hk := bup hk (L52 61)
  have hn := bup hn (L52 62)
  have X0 := X0.tr L0 X52
  have L0 := L0.tr L52
  refine ⟨fun c => ?_, fun c => ?_⟩
  · replace hp := mif_t hp c
    have hb := mthr_b hp hk hn
    exact ⟨hb.1, hb.2, hy _ _ _ _ h52 L0 X0 hp (by decide)⟩
  · replace hp := mif_f hp c
    have A0_s52 := A0.up L52 X52
    obtain ⟨x54, S55, e55, L55, hp⟩ := mb_some hp
    refine q_X11_isLot h52 A0_s52 e55 (fun D55 s55 h55 X55 => ?_)
    have hk := bup hk (L55 61)
    have hn := bup hn (L55 62)
    have X0 := X0.tr L0 X55
    have L0 := L0.tr L55
    refine ⟨fun c => ?_, fun c => ?_⟩
    · replace hp := mif_f hp c
      obtain ⟨x57, S58, e58, L58, hp⟩ := mb_some hp
      refine q_X11_isWithin h55  e58 (fun D58 s58 h58 X58 => ?_)
      have hk := bup hk (L58 61)
      have hn := bup hn (L58 62)
      have X0 := X0.tr L0 X58
      have L0 := L0.tr L58
      replace hp := mrd_some hp
      refine ⟨fun c => ?_, fun c => ?_⟩
      · replace hp := mif_f hp c
        have A0_s55 := A0_s52.up L55 X55
        have A0_s58 := A0_s55.up L58 X58
        intro o60 ho60
        obtain ⟨b60, p60, B60⟩ := h58.cel 1111 11 rfl A0_s58 ho60
        refine ⟨b60, p60, ?_⟩
        obtain ⟨x62, ex62, hp⟩ := mbo_some hp
        refine q_at h58 (show cF 1111 11 = true from rfl) B60 ex62 ?_
        refine ⟨fun c => ?_, fun c => ?_⟩
        · replace hp := mif_t hp c
          intro o65 ho65
          obtain ⟨b65, p65, B65⟩ := h58.cel 1111 11 rfl A0_s58 ho65
          refine ⟨b65, p65, ?_⟩
          obtain ⟨S68, z68, L68, hp⟩ := mst_some hp
          refine q_addc h58 (show cF 1111 11 = true from rfl) B65 (fun s68 h68 => ?_)
          rw [z68] at h68
          have L0 := L0.tr L68
          have hk := bup hk (L68 61)
          have hn := bup hn (L68 62)
          have A0_s68 := A0_s58.up L68 (DX.rf _ _)
          intro o69 ho69
          obtain ⟨b69, p69, B69⟩ := h68.bok A0_s68 ho69
          intro o70 ho70
          obtain ⟨b70, p70, B70⟩ := h68.lis 1103 11 5 rfl A0_s68 ((lv_o (by decide)).mp A0_s68.1) ho70
          refine ⟨b70, p70, ?_⟩
          obtain ⟨i72, e72, hp⟩ := mlget_some hp
          refine q_get h68 (show lF 1103 11 5 = true from rfl) B70 e72 (fun b72 B72 => ?_)
          refine ⟨b72, rfl, ?_⟩
          refine ⟨h68.ob (by decide) B72, ?_⟩
          refine ⟨b69, p69, ?_⟩
          obtain ⟨w78, S78, e78, L78, hp⟩ := mb_some hp
          have M78 := mle hp
          obtain ⟨k79, k81, f1, f2, hk⟩ := bud (L78 61) (M78 61) hk
          obtain ⟨n80, n82, g1, g2, hn⟩ := bud (L78 62) (M78 62) hn
          refine ⟨k79, n80, k81, n82, f1, g1, q_X0_move h68 B69 B72 e78 f2 g2 (fun D78 s78 h78 X78 => ?_)⟩
          have X0 := X0.tr L0 X78
          have L0 := L0.tr L78
          replace hp := mrd_some hp
          intro s85 es85
          have A0_s78 := A0_s68.up L78 X78
          rw [h78.int 1118 11 rfl (by decide) A0_s78] at es85
          obtain ⟨S85, z85, L85, hp⟩ := mst_some hp
          have h85 := h78.wI (rfl : 1118 / 100 = 11) (by decide) (by decide) A0_s78 es85
          rw [z85] at h85
          have L0 := L0.tr L85
          have hk := bup hk (L85 61)
          have hn := bup hn (L85 62)
          replace hp := mrd_some hp
          have A0_s85 := A0_s78.up L85 (DX.rf _ _)
          intro o86 ho86
          obtain ⟨b86, p86, B86⟩ := h85.bok A0_s85 ho86
          refine ⟨b86, p86, ?_⟩
          intro o88 ho88
          obtain ⟨b88, p88, B88⟩ := h85.cel 0 0 rfl B86 ho88
          refine ⟨b88, p88, ?_⟩
          obtain ⟨x90, ex90, hp⟩ := mbo_some hp
          refine q_at h85 (show cF 0 0 = true from rfl) B88 ex90 ?_
          exact hq _ _ _ _ h85 L0 X0 hp
        · replace hp := mif_f hp c
          have hb := mthr_b hp hk hn
          exact ⟨hb.1, hb.2, hy _ _ _ _ h58 L0 X0 hp (by decide)⟩
      · replace hp := mif_t hp c
        have hb := mthr_b hp hk hn
        exact ⟨hb.1, hb.2, hy _ _ _ _ h58 L0 X0 hp (by decide)⟩
    · replace hp := mif_t hp c
      have hb := mthr_b hp hk hn
      exact ⟨hb.1, hb.2, hy _ _ _ _ h55 L0 X0 hp (by decide)⟩
set_option maxRecDepth 100000 in
set_option maxHeartbeats 1000000 in
theorem q_X11_doing {D : Nat → Nat → Nat} {σ : St} {S S' : Ss} {a0 : Nat} {x1 : Int32} {r : Nat × Int32} (h : RC D σ S) (A0 : AT D S 11 0 a0) (hp : (f_X11_doing x1).1 S = some (r, S')) {k n : Nat} (hk : zN S' 61 ≤ zN S 61 + k) (hn : zN S' 62 ≤ zN S 62 + n) {Q : Int32 → St → Prop} (hq : ∀ D' τ, RC D' τ S' → DX S D D' → r.1 = 0 → Q r.2 τ) {Y : Nat → St → Prop} (hy : ∀ D' τ u, RC D' τ S' → DX S D D' → r.1 = u → ¬ u = 0 → Y u τ) : w_X11_doing k n a0 x1 σ Q Y := by
  have L0 := zle.rf S
  have X0 := DX.rf S D
  replace hq : ∀ D9 σ9 S9 x, RC D9 σ9 S9 → zle S S9 → DX S D D9 → (mret (0, x)).1 S9 = some (r, S') → Q x σ9 := fun D9 σ9 S9 x h9 _ X9 e9 => by obtain ⟨rfl, rfl⟩ := mret_some e9; exact hq D9 σ9 h9 X9 rfl
  replace hy : ∀ D9 σ9 S9 u, RC D9 σ9 S9 → zle S S9 → DX S D D9 → (mthr u).1 S9 = some (r, S') → ¬ u = 0 → Y u σ9 := fun D9 σ9 S9 u h9 _ X9 e9 n9 => by cases e9; exact hy D9 σ9 u (h9.cost _ _) X9 rfl n9
  unfold f_X11_doing at hp
  unfold w_X11_doing
  obtain ⟨x51, S52, e52, L52, hp⟩ := mb_some hp
  refine q_X11_isRobot h  e52 (fun D52 s52 h52 X52 => ?_)
  have hk := bup hk (L52 61)
  have hn := bup hn (L52 62)
  have X0 := X0.tr L0 X52
  have L0 := L0.tr L52
  refine ⟨fun c => ?_, fun c => ?_⟩
  · replace hp := mif_f hp c
    have A0_s52 := A0.up L52 X52
    intro o54 ho54
    obtain ⟨b54, p54, B54⟩ := h52.arr 1102 8 rfl A0_s52 ho54
    refine ⟨b54, p54, ?_⟩
    obtain ⟨v_1, hp⟩ := mix_some hp
    refine ⟨by rw [h52.aln 1102 8 rfl B54]; exact v_1, ?_⟩
    intro o57 ho57
    have C57 := h52.ael 1102 8 rfl B54 v_1
    rw [← ho57] at C57
    obtain ⟨b57, p57, B57⟩ := C57.so rfl
    refine ⟨b57, p57, ?_⟩
    obtain ⟨r59, S60, e60, L60, hp⟩ := mb_some hp
    refine q_X8_firstTask h52 B57 e60 (fun D60 s60 o59 h60 X60 B59 => ?_)
    have hk := bup hk (L60 61)
    have hn := bup hn (L60 62)
    have X0 := X0.tr L0 X60
    have L0 := L0.tr L60
    replace hp := mrd_some hp
    refine ⟨fun c => ?_, fun a62 c => ?_⟩
    · replace hp := mcase_n hp (B59.no c)
      exact hq _ _ _ _ h60 L0 X0 hp
    · obtain ⟨i62, e62, B62⟩ := B59.sa c
      replace hp := mcase_s hp e62
      rw [h60.int 1000 10 rfl (by decide) B62]
      exact hq _ _ _ _ h60 L0 X0 hp
  · replace hp := mif_t hp c
    have hb := mthr_b hp hk hn
    exact ⟨hb.1, hb.2, hy _ _ _ _ h52 L0 X0 hp (by decide)⟩
set_option maxRecDepth 100000 in
set_option maxHeartbeats 1000000 in
theorem q_X11_finish {D : Nat → Nat → Nat} {σ : St} {S S' : Ss} {a0 : Nat} {a1 : Nat} {i1 : Nat} {r : Unit} (h : RC D σ S) (A0 : AT D S 11 0 a0) (A1 : AT D S 10 i1 a1) (hp : (f_X11_finish i1).1 S = some (r, S')) {k n : Nat} (hk : zN S' 61 ≤ zN S 61 + k) (hn : zN S' 62 ≤ zN S 62 + n) {Q : St → Prop} (hq : ∀ D' τ, RC D' τ S' → DX S D D' → Q τ) : w_X11_finish k n a0 a1 σ Q := by
  have L0 := zle.rf S
  have X0 := DX.rf S D
  replace hq : ∀ D9 σ9 S9, RC D9 σ9 S9 → zle S S9 → DX S D D9 → (mret ()).1 S9 = some (r, S') → Q σ9 := fun D9 σ9 S9 h9 _ X9 e9 => by obtain ⟨rfl, rfl⟩ := mret_some e9; exact hq D9 σ9 h9 X9
  unfold f_X11_finish at hp
  unfold w_X11_finish
  replace hp := mrd_some hp
  intro o51 ho51
  obtain ⟨r51, e51, hp⟩ := mbo_some hp
  have B51 := h.refr 1002 10 2 rfl A1
  rw [← ho51, ← e51] at B51
  intro o52 ho52
  obtain ⟨b52, p52, B52⟩ := h.bok A0 ho52
  obtain ⟨i53, e53, hp⟩ := mopt_some hp
  obtain ⟨a53, p53, B53⟩ := B51.so e53
  refine ⟨a53, p53, ?_⟩
  intro o54 ho54
  obtain ⟨r54, e54, hp⟩ := mbo_some hp
  have B54 := h.refr 203 2 5 rfl B53
  rw [← ho54, ← e54] at B54
  obtain ⟨i55, e55, hp⟩ := mopt_some hp
  obtain ⟨a55, p55, B55⟩ := B54.so e55
  refine ⟨a55, p55, ?_⟩
  refine ⟨b52, p52, ?_⟩
  rw [h.int 202 2 rfl (by decide) B53, h.int 1003 10 rfl (by decide) A1, h.int 1004 10 rfl (by decide) A1]
  obtain ⟨w58, S58, e58, L58, hp⟩ := mb_some hp
  have M58 := mle hp
  obtain ⟨k59, k61, f1, f2, hk⟩ := bud (L58 61) (M58 61) hk
  obtain ⟨n60, n62, g1, g2, hn⟩ := bud (L58 62) (M58 62) hn
  refine ⟨k59, n60, k61, n62, f1, g1, q_X0_move h B52 B55 e58 f2 g2 (fun D58 s58 h58 X58 => ?_)⟩
  have X0 := X0.tr L0 X58
  have L0 := L0.tr L58
  replace hp := mrd_some hp
  have A0_s58 := A0.up L58 X58
  have B53_s58 := B53.up L58 X58
  rw [h58.int 204 2 rfl (by decide) B53_s58]
  obtain ⟨w66, S66, e66, L66, hp⟩ := mb_some hp
  refine q_X11_release h58 A0_s58 B53_s58 e66 (fun D66 s66 h66 X66 => ?_)
  have hk := bup hk (L66 61)
  have hn := bup hn (L66 62)
  have X0 := X0.tr L0 X66
  have L0 := L0.tr L66
  have A0_s66 := A0_s58.up L66 X66
  obtain ⟨w68, S68, e68, L68, hp⟩ := mb_some hp
  refine q_X11_dropEmptyHoldings h66 A0_s66 e68 (fun D68 s68 h68 X68 => ?_)
  have hk := bup hk (L68 61)
  have hn := bup hn (L68 62)
  have X0 := X0.tr L0 X68
  have L0 := L0.tr L68
  intro s69 es69
  have A1_s58 := A1.up L58 X58
  have A1_s66 := A1_s58.up L66 X66
  have A1_s68 := A1_s66.up L68 X68
  obtain ⟨S69, z69, L69, hp⟩ := mst_some hp
  have h69 := h68.wI (rfl : 1005 / 100 = 10) (by decide) (by decide) A1_s68 es69
  rw [z69] at h69
  have L0 := L0.tr L69
  have hk := bup hk (L69 61)
  have hn := bup hn (L69 62)
  replace hp := mrd_some hp
  have A1_s69 := A1_s68.up L69 (DX.rf _ _)
  refine ⟨fun c => ?_, fun c => ?_⟩
  · rw [h69.int 1001 10 rfl (by decide) A1_s69] at c
    replace hp := mif_f hp c
    refine ⟨fun c => ?_, fun c => ?_⟩
    · rw [h69.int 1001 10 rfl (by decide) A1_s69] at c
      replace hp := mif_f hp c
      intro s72 es72
      have A0_s68 := A0_s66.up L68 X68
      have A0_s69 := A0_s68.up L69 (DX.rf _ _)
      rw [h69.int 1118 11 rfl (by decide) A0_s69, h69.int 1004 10 rfl (by decide) A1_s69] at es72
      obtain ⟨S72, z72, L72, hp⟩ := mst_some hp
      have h72 := h69.wI (rfl : 1118 / 100 = 11) (by decide) (by decide) A0_s69 es72
      rw [z72] at h72
      have L0 := L0.tr L72
      have hk := bup hk (L72 61)
      have hn := bup hn (L72 62)
      replace hp := mrd_some hp
      have B53_s66 := B53_s58.up L66 X66
      have B53_s68 := B53_s66.up L68 X68
      have B53_s69 := B53_s68.up L69 (DX.rf _ _)
      have B53_s72 := B53_s69.up L72 (DX.rf _ _)
      intro o73 ho73
      obtain ⟨r73, e73, hp⟩ := mbo_some hp
      have B73 := h72.refr 201 2 4 rfl B53_s72
      rw [← ho73, ← e73] at B73
      refine ⟨fun c => ?_, fun a75 c => ?_⟩
      · replace hp := mcase_n hp (B73.no c)
        exact hq _ _ _ h72 L0 X0 hp
      · obtain ⟨i75, e75, B75⟩ := B73.sa c
        replace hp := mcase_s hp e75
        intro o76 ho76
        obtain ⟨r76, e76, hp⟩ := mbo_some hp
        have B76 := h72.refr 201 2 4 rfl B53_s72
        rw [← ho76, ← e76] at B76
        obtain ⟨i77, e77, hp⟩ := mopt_some hp
        obtain ⟨a77, p77, B77⟩ := B76.so e77
        refine ⟨a77, p77, ?_⟩
        intro s78 es78
        have A1_s72 := A1_s69.up L72 (DX.rf _ _)
        rw [h72.int 403 4 rfl (by decide) B77, h72.int 1004 10 rfl (by decide) A1_s72] at es78
        obtain ⟨S78, z78, L78, hp⟩ := mst_some hp
        have h78 := h72.wI (rfl : 403 / 100 = 4) (by decide) (by decide) B77 es78
        rw [z78] at h78
        have L0 := L0.tr L78
        have hk := bup hk (L78 61)
        have hn := bup hn (L78 62)
        exact hq _ _ _ h78 L0 X0 hp
    · rw [h69.int 1001 10 rfl (by decide) A1_s69] at c
      replace hp := mif_t hp c
      intro s79 es79
      have A0_s68 := A0_s66.up L68 X68
      have A0_s69 := A0_s68.up L69 (DX.rf _ _)
      rw [h69.int 1118 11 rfl (by decide) A0_s69] at es79
      obtain ⟨S79, z79, L79, hp⟩ := mst_some hp
      have h79 := h69.wI (rfl : 1118 / 100 = 11) (by decide) (by decide) A0_s69 es79
      rw [z79] at h79
      have L0 := L0.tr L79
      have hk := bup hk (L79 61)
      have hn := bup hn (L79 62)
      exact hq _ _ _ h79 L0 X0 hp
  · rw [h69.int 1001 10 rfl (by decide) A1_s69] at c
    replace hp := mif_t hp c
    intro s80 es80
    have A0_s68 := A0_s66.up L68 X68
    have A0_s69 := A0_s68.up L69 (DX.rf _ _)
    rw [h69.int 1118 11 rfl (by decide) A0_s69] at es80
    obtain ⟨S80, z80, L80, hp⟩ := mst_some hp
    have h80 := h69.wI (rfl : 1118 / 100 = 11) (by decide) (by decide) A0_s69 es80
    rw [z80] at h80
    have L0 := L0.tr L80
    have hk := bup hk (L80 61)
    have hn := bup hn (L80 62)
    exact hq _ _ _ h80 L0 X0 hp
set_option maxRecDepth 100000 in
set_option maxHeartbeats 1000000 in
theorem q_X11_item {D : Nat → Nat → Nat} {σ : St} {S S' : Ss} {a0 : Nat} {x1 : Int32} {x2 : Int32} {x3 : Int32} {x4 : Int32} {x5 : Int32} {x6 : Int32} {r : Nat × Int32} (h : RC D σ S) (A0 : AT D S 11 0 a0) (hp : (f_X11_item x1 x2 x3 x4 x5 x6).1 S = some (r, S')) {k n : Nat} (hk : zN S' 61 ≤ zN S 61 + k) (hn : zN S' 62 ≤ zN S 62 + n) {Q : St → Prop} (hq : ∀ D' τ, RC D' τ S' → DX S D D' → r.1 = 0 → Q τ) {Y : Nat → St → Prop} (hy : ∀ D' τ u, RC D' τ S' → DX S D D' → r.1 = u → ¬ u = 0 → Y u τ) : w_X11_item k n a0 x1 x2 x3 x4 x5 x6 σ Q Y := by
  have L0 := zle.rf S
  have X0 := DX.rf S D
  replace hq : ∀ D9 σ9 S9, RC D9 σ9 S9 → zle S S9 → DX S D D9 → (mret (0, 0)).1 S9 = some (r, S') → Q σ9 := fun D9 σ9 S9 h9 _ X9 e9 => by obtain ⟨rfl, rfl⟩ := mret_some e9; exact hq D9 σ9 h9 X9 rfl
  replace hy : ∀ D9 σ9 S9 u, RC D9 σ9 S9 → zle S S9 → DX S D D9 → (mthr u).1 S9 = some (r, S') → ¬ u = 0 → Y u σ9 := fun D9 σ9 S9 u h9 _ X9 e9 n9 => by cases e9; exact hy D9 σ9 u (h9.cost _ _) X9 rfl n9
  unfold f_X11_item at hp
  unfold w_X11_item
  obtain ⟨x51, S52, e52, L52, hp⟩ := mb_some hp
  refine q_X11_isItem h  e52 (fun D52 s52 h52 X52 => ?_)
  have hk := bup hk (L52 61)
  have hn := bup hn (L52 62)
  have X0 := X0.tr L0 X52
  have L0 := L0.tr L52
  refine ⟨fun c => ?_, fun c => ?_⟩
  · replace hp := mif_t hp c
    have hb := mthr_b hp hk hn
    exact ⟨hb.1, hb.2, hy _ _ _ _ h52 L0 X0 hp (by decide)⟩
  · replace hp := mif_f hp c
    obtain ⟨x54, S55, e55, L55, hp⟩ := mb_some hp
    refine q_X11_isGroup h52  e55 (fun D55 s55 h55 X55 => ?_)
    have hk := bup hk (L55 61)
    have hn := bup hn (L55 62)
    have X0 := X0.tr L0 X55
    have L0 := L0.tr L55
    refine ⟨fun c => ?_, fun c => ?_⟩
    · replace hp := mif_f hp c
      obtain ⟨x57, S58, e58, L58, hp⟩ := mb_some hp
      refine q_X11_isWithin h55  e58 (fun D58 s58 h58 X58 => ?_)
      have hk := bup hk (L58 61)
      have hn := bup hn (L58 62)
      have X0 := X0.tr L0 X58
      have L0 := L0.tr L58
      refine ⟨fun c => ?_, fun c => ?_⟩
      · replace hp := mif_t hp c
        have hb := mthr_b hp hk hn
        exact ⟨hb.1, hb.2, hy _ _ _ _ h58 L0 X0 hp (by decide)⟩
      · replace hp := mif_f hp c
        obtain ⟨x60, S61, e61, L61, hp⟩ := mb_some hp
        refine q_X11_isWithin h58  e61 (fun D61 s61 h61 X61 => ?_)
        have hk := bup hk (L61 61)
        have hn := bup hn (L61 62)
        have X0 := X0.tr L0 X61
        have L0 := L0.tr L61
        refine ⟨fun c => ?_, fun c => ?_⟩
        · replace hp := mif_t hp c
          have hb := mthr_b hp hk hn
          exact ⟨hb.1, hb.2, hy _ _ _ _ h61 L0 X0 hp (by decide)⟩
        · replace hp := mif_f hp c
          obtain ⟨x63, S64, e64, L64, hp⟩ := mb_some hp
          refine q_X11_isWithin h61  e64 (fun D64 s64 h64 X64 => ?_)
          have hk := bup hk (L64 61)
          have hn := bup hn (L64 62)
          have X0 := X0.tr L0 X64
          have L0 := L0.tr L64
          refine ⟨fun c => ?_, fun c => ?_⟩
          · replace hp := mif_t hp c
            have hb := mthr_b hp hk hn
            exact ⟨hb.1, hb.2, hy _ _ _ _ h64 L0 X0 hp (by decide)⟩
          · replace hp := mif_f hp c
            obtain ⟨x66, S67, e67, L67, hp⟩ := mb_some hp
            refine q_X11_isWithin h64  e67 (fun D67 s67 h67 X67 => ?_)
            have hk := bup hk (L67 61)
            have hn := bup hn (L67 62)
            have X0 := X0.tr L0 X67
            have L0 := L0.tr L67
            refine ⟨fun c => ?_, fun c => ?_⟩
            · replace hp := mif_f hp c
              have A0_s52 := A0.up L52 X52
              have A0_s55 := A0_s52.up L55 X55
              have A0_s58 := A0_s55.up L58 X58
              have A0_s61 := A0_s58.up L61 X61
              have A0_s64 := A0_s61.up L64 X64
              have A0_s67 := A0_s64.up L67 X67
              intro o69 ho69
              obtain ⟨b69, p69, B69⟩ := h67.arr 1101 3 rfl A0_s67 ho69
              refine ⟨b69, p69, ?_⟩
              obtain ⟨v_1, hp⟩ := mix_some hp
              refine ⟨by rw [h67.aln 1101 3 rfl B69]; exact v_1, ?_⟩
              intro o72 ho72
              have C72 := h67.ael 1101 3 rfl B69 v_1
              rw [← ho72] at C72
              obtain ⟨b72, p72, B72⟩ := C72.so rfl
              refine ⟨b72, p72, ?_⟩
              obtain ⟨x74, S75, e75, L75, hp⟩ := mb_some hp
              refine q_X11_hasLotOrFace h67 A0_s67 B72 e75 (fun D75 s75 h75 X75 => ?_)
              have hk := bup hk (L75 61)
              have hn := bup hn (L75 62)
              have X0 := X0.tr L0 X75
              have L0 := L0.tr L75
              refine ⟨fun c => ?_, fun c => ?_⟩
              · replace hp := mif_t hp c
                have A0_s75 := A0_s67.up L75 X75
                intro o77 ho77
                obtain ⟨b77, p77, B77⟩ := h75.arr 1101 3 rfl A0_s75 ho77
                refine ⟨b77, p77, ?_⟩
                obtain ⟨v_2, hp⟩ := mix_some hp
                refine ⟨by rw [h75.aln 1101 3 rfl B77]; exact v_2, ?_⟩
                intro o80 ho80
                have C80 := h75.ael 1101 3 rfl B77 v_2
                rw [← ho80] at C80
                obtain ⟨b80, p80, B80⟩ := C80.so rfl
                refine ⟨b80, p80, ?_⟩
                intro s82 es82
                obtain ⟨S82, z82, L82, hp⟩ := mst_some hp
                have h82 := h75.wI (rfl : 301 / 100 = 3) (by decide) (by decide) B80 es82
                rw [z82] at h82
                have L0 := L0.tr L82
                have hk := bup hk (L82 61)
                have hn := bup hn (L82 62)
                have A0_s82 := A0_s75.up L82 (DX.rf _ _)
                intro o83 ho83
                obtain ⟨b83, p83, B83⟩ := h82.arr 1101 3 rfl A0_s82 ho83
                refine ⟨b83, p83, ?_⟩
                obtain ⟨v_3, hp⟩ := mix_some hp
                refine ⟨by rw [h82.aln 1101 3 rfl B83]; exact v_3, ?_⟩
                intro o86 ho86
                have C86 := h82.ael 1101 3 rfl B83 v_3
                rw [← ho86] at C86
                obtain ⟨b86, p86, B86⟩ := C86.so rfl
                refine ⟨b86, p86, ?_⟩
                intro s88 es88
                obtain ⟨S88, z88, L88, hp⟩ := mst_some hp
                have h88 := h82.wI (rfl : 302 / 100 = 3) (by decide) (by decide) B86 es88
                rw [z88] at h88
                have L0 := L0.tr L88
                have hk := bup hk (L88 61)
                have hn := bup hn (L88 62)
                have A0_s88 := A0_s82.up L88 (DX.rf _ _)
                intro o89 ho89
                obtain ⟨b89, p89, B89⟩ := h88.arr 1101 3 rfl A0_s88 ho89
                refine ⟨b89, p89, ?_⟩
                obtain ⟨v_4, hp⟩ := mix_some hp
                refine ⟨by rw [h88.aln 1101 3 rfl B89]; exact v_4, ?_⟩
                intro o92 ho92
                have C92 := h88.ael 1101 3 rfl B89 v_4
                rw [← ho92] at C92
                obtain ⟨b92, p92, B92⟩ := C92.so rfl
                refine ⟨b92, p92, ?_⟩
                intro s94 es94
                obtain ⟨S94, z94, L94, hp⟩ := mst_some hp
                have h94 := h88.wI (rfl : 303 / 100 = 3) (by decide) (by decide) B92 es94
                rw [z94] at h94
                have L0 := L0.tr L94
                have hk := bup hk (L94 61)
                have hn := bup hn (L94 62)
                have A0_s94 := A0_s88.up L94 (DX.rf _ _)
                intro o95 ho95
                obtain ⟨b95, p95, B95⟩ := h94.arr 1101 3 rfl A0_s94 ho95
                refine ⟨b95, p95, ?_⟩
                obtain ⟨v_5, hp⟩ := mix_some hp
                refine ⟨by rw [h94.aln 1101 3 rfl B95]; exact v_5, ?_⟩
                intro o98 ho98
                have C98 := h94.ael 1101 3 rfl B95 v_5
                rw [← ho98] at C98
                obtain ⟨b98, p98, B98⟩ := C98.so rfl
                refine ⟨b98, p98, ?_⟩
                intro s100 es100
                obtain ⟨S100, z100, L100, hp⟩ := mst_some hp
                have h100 := h94.wI (rfl : 304 / 100 = 3) (by decide) (by decide) B98 es100
                rw [z100] at h100
                have L0 := L0.tr L100
                have hk := bup hk (L100 61)
                have hn := bup hn (L100 62)
                have A0_s100 := A0_s94.up L100 (DX.rf _ _)
                intro o101 ho101
                obtain ⟨b101, p101, B101⟩ := h100.arr 1101 3 rfl A0_s100 ho101
                refine ⟨b101, p101, ?_⟩
                obtain ⟨v_6, hp⟩ := mix_some hp
                refine ⟨by rw [h100.aln 1101 3 rfl B101]; exact v_6, ?_⟩
                intro o104 ho104
                have C104 := h100.ael 1101 3 rfl B101 v_6
                rw [← ho104] at C104
                obtain ⟨b104, p104, B104⟩ := C104.so rfl
                refine ⟨b104, p104, ?_⟩
                intro s106 es106
                obtain ⟨S106, z106, L106, hp⟩ := mst_some hp
                have h106 := h100.wI (rfl : 305 / 100 = 3) (by decide) (by decide) B104 es106
                rw [z106] at h106
                have L0 := L0.tr L106
                have hk := bup hk (L106 61)
                have hn := bup hn (L106 62)
                exact hq _ _ _ h106 L0 X0 hp
              · replace hp := mif_f hp c
                have hb := mthr_b hp hk hn
                exact ⟨hb.1, hb.2, hy _ _ _ _ h75 L0 X0 hp (by decide)⟩
            · replace hp := mif_t hp c
              have hb := mthr_b hp hk hn
              exact ⟨hb.1, hb.2, hy _ _ _ _ h67 L0 X0 hp (by decide)⟩
    · replace hp := mif_t hp c
      have hb := mthr_b hp hk hn
      exact ⟨hb.1, hb.2, hy _ _ _ _ h55 L0 X0 hp (by decide)⟩
set_option maxRecDepth 100000 in
set_option maxHeartbeats 1000000 in
theorem q_X11_judge_75 {D0 : Nat → Nat → Nat} {S0 S' : Ss} {r : Nat × Int32} {Q : Int32 → St → Prop} (hq : ∀ D σ S x, RC D σ S → zle S0 S → DX S0 D0 D → (mret (0, x)).1 S = some (r, S') → Q x σ) {Y : Nat → St → Prop} (hy : ∀ D σ S u, RC D σ S → zle S0 S → DX S0 D0 D → (mthr u).1 S = some (r, S') → ¬ u = 0 → Y u σ) : ∀ (D : Nat → Nat → Nat) (σ : St) (S : Ss) (a0 : Nat) (x1 : Int32) (x2 : Int32) (os0 : Option Nat) (xs1 : Int32) (xs2 : Int32), RC D σ S → zle S0 S → DX S0 D0 D → AT D S 11 0 a0 → (∃ b, os0 = some b ∧ AT D S 0 0 b) → (f_X11_judge_75 x1 x2 xs1 xs2).1 S = some (r, S') → ∀ k n : Nat, zN S' 61 ≤ zN S 61 + k → zN S' 62 ≤ zN S 62 + n → w_X11_judge_75 Q Y  a0 x1 x2 os0 xs1 xs2 σ k n := by
  intro D σ S a0 x1 x2 os0 xs1 xs2 h L0 X0 A0 As0 hp k n hk hn
  unfold f_X11_judge_75 at hp
  unfold w_X11_judge_75
  obtain ⟨bs0, ps0, As0⟩ := As0
  intro o66 ho66
  obtain ⟨b66, p66, B66⟩ := h.lis 1103 11 5 rfl A0 ((lv_o (by decide)).mp A0.1) ho66
  refine ⟨b66, p66, ?_⟩
  obtain ⟨i68, e68, hp⟩ := mlget_some hp
  refine q_get h (show lF 1103 11 5 = true from rfl) B66 e68 (fun b68 B68 => ?_)
  refine ⟨b68, rfl, ?_⟩
  refine ⟨h.ob (by decide) B68, ?_⟩
  refine ⟨bs0, ps0, ?_⟩
  obtain ⟨w74, S74, e74, L74, hp⟩ := mb_some hp
  have M74 := mle hp
  obtain ⟨k75, k77, f1, f2, hk⟩ := bud (L74 61) (M74 61) hk
  obtain ⟨n76, n78, g1, g2, hn⟩ := bud (L74 62) (M74 62) hn
  refine ⟨k75, n76, k77, n78, f1, g1, q_X0_move h As0 B68 e74 f2 g2 (fun D74 s74 h74 X74 => ?_)⟩
  have X0 := X0.tr L0 X74
  have L0 := L0.tr L74
  replace hp := mrd_some hp
  have A0_s74 := A0.up L74 X74
  intro o81 ho81
  obtain ⟨b81, p81, B81⟩ := h74.bok A0_s74 ho81
  refine ⟨b81, p81, ?_⟩
  intro o83 ho83
  obtain ⟨b83, p83, B83⟩ := h74.cel 0 0 rfl B81 ho83
  refine ⟨b83, p83, ?_⟩
  obtain ⟨x85, ex85, hp⟩ := mbo_some hp
  refine q_at h74 (show cF 0 0 = true from rfl) B83 ex85 ?_
  exact hq _ _ _ _ h74 L0 X0 hp
set_option maxRecDepth 100000 in
set_option maxHeartbeats 1000000 in
theorem q_X11_judge {D : Nat → Nat → Nat} {σ : St} {S S' : Ss} {a0 : Nat} {x1 : Int32} {x2 : Int32} {x3 : Int32} {r : Nat × Int32} (h : RC D σ S) (A0 : AT D S 11 0 a0) (hp : (f_X11_judge x1 x2 x3).1 S = some (r, S')) {k n : Nat} (hk : zN S' 61 ≤ zN S 61 + k) (hn : zN S' 62 ≤ zN S 62 + n) {Q : Int32 → St → Prop} (hq : ∀ D' τ, RC D' τ S' → DX S D D' → r.1 = 0 → Q r.2 τ) {Y : Nat → St → Prop} (hy : ∀ D' τ u, RC D' τ S' → DX S D D' → r.1 = u → ¬ u = 0 → Y u τ) : w_X11_judge k n a0 x1 x2 x3 σ Q Y := by
  have L0 := zle.rf S
  have X0 := DX.rf S D
  replace hq : ∀ D9 σ9 S9 x, RC D9 σ9 S9 → zle S S9 → DX S D D9 → (mret (0, x)).1 S9 = some (r, S') → Q x σ9 := fun D9 σ9 S9 x h9 _ X9 e9 => by obtain ⟨rfl, rfl⟩ := mret_some e9; exact hq D9 σ9 h9 X9 rfl
  replace hy : ∀ D9 σ9 S9 u, RC D9 σ9 S9 → zle S S9 → DX S D D9 → (mthr u).1 S9 = some (r, S') → ¬ u = 0 → Y u σ9 := fun D9 σ9 S9 u h9 _ X9 e9 n9 => by cases e9; exact hy D9 σ9 u (h9.cost _ _) X9 rfl n9
  unfold f_X11_judge at hp
  unfold w_X11_judge
  obtain ⟨x51, S52, e52, L52, hp⟩ := mb_some hp
  refine q_X11_isLot h A0 e52 (fun D52 s52 h52 X52 => ?_)
  have hk := bup hk (L52 61)
  have hn := bup hn (L52 62)
  have X0 := X0.tr L0 X52
  have L0 := L0.tr L52
  refine ⟨fun c => ?_, fun c => ?_⟩
  · replace hp := mif_f hp c
    obtain ⟨x54, S55, e55, L55, hp⟩ := mb_some hp
    refine q_X11_isWithin h52  e55 (fun D55 s55 h55 X55 => ?_)
    have hk := bup hk (L55 61)
    have hn := bup hn (L55 62)
    have X0 := X0.tr L0 X55
    have L0 := L0.tr L55
    replace hp := mrd_some hp
    refine ⟨fun c => ?_, fun c => ?_⟩
    · replace hp := mif_f hp c
      have A0_s52 := A0.up L52 X52
      have A0_s55 := A0_s52.up L55 X55
      intro o57 ho57
      obtain ⟨b57, p57, B57⟩ := h55.bok A0_s55 ho57
      refine ⟨b57, p57, ?_⟩
      intro o59 ho59
      obtain ⟨b59, p59, B59⟩ := h55.cel 0 0 rfl B57 ho59
      refine ⟨b59, p59, ?_⟩
      obtain ⟨x61, ex61, hp⟩ := mbo_some hp
      refine q_at h55 (show cF 0 0 = true from rfl) B59 ex61 ?_
      refine ⟨fun c => ?_, fun c => ?_⟩
      · replace hp := mif_t hp c
        intro o64 ho64
        obtain ⟨b64, p64, B64⟩ := h55.bok A0_s55 ho64
        refine ⟨fun c => ?_, fun c => ?_⟩
        · replace hp := mif_t hp c
          exact q_X11_judge_75 hq hy  _ _ _ _ _ _ _ _ _ h55 L0 X0 A0_s55 ⟨_, p64, B64⟩ hp _ _ hk hn
        · replace hp := mif_f hp c
          exact q_X11_judge_75 hq hy  _ _ _ _ _ _ _ _ _ h55 L0 X0 A0_s55 ⟨_, p64, B64⟩ hp _ _ hk hn
      · replace hp := mif_f hp c
        have hb := mthr_b hp hk hn
        exact ⟨hb.1, hb.2, hy _ _ _ _ h55 L0 X0 hp (by decide)⟩
    · replace hp := mif_t hp c
      have hb := mthr_b hp hk hn
      exact ⟨hb.1, hb.2, hy _ _ _ _ h55 L0 X0 hp (by decide)⟩
  · replace hp := mif_t hp c
    have hb := mthr_b hp hk hn
    exact ⟨hb.1, hb.2, hy _ _ _ _ h52 L0 X0 hp (by decide)⟩
set_option maxRecDepth 100000 in
set_option maxHeartbeats 1000000 in
theorem q_X11_letGo_52 {D0 : Nat → Nat → Nat} {S0 S' : Ss} {r : Unit} {Q : St → Prop} (hq : ∀ D σ S, RC D σ S → zle S0 S → DX S0 D0 D → (mret ()).1 S = some (r, S') → Q σ) {K2 : Nat → Option Nat → Option Nat → Int32 → St → Prop} {LK2 : Option Nat → Option Nat → Int32 → MM (Unit)} (hK2 : ∀ (D : Nat → Nat → Nat) (σ : St) (S : Ss) (a0 : Nat) (o1 : Option Nat) (r1 : Option Nat) (o2 : Option Nat) (r2 : Option Nat) (x3 : Int32), RC D σ S → zle S0 S → DX S0 D0 D → AT D S 11 0 a0 → ATo D S 7 r1 o1 → ATo D S 5 r2 o2 → (LK2 r1 r2 x3).1 S = some (r, S') → K2 a0 o1 o2 x3 σ) : ∀ (D : Nat → Nat → Nat) (σ : St) (S : Ss) (a0 : Nat) (o1 : Option Nat) (r1 : Option Nat) (o2 : Option Nat) (r2 : Option Nat) (x3 : Int32) (a4 : Nat) (i4 : Nat), RC D σ S → zle S0 S → DX S0 D0 D → AT D S 11 0 a0 → ATo D S 7 r1 o1 → ATo D S 5 r2 o2 → AT D S 2 i4 a4 → (f_X11_letGo_52 LK2 r1 r2 x3 i4).1 S = some (r, S') → w_X11_letGo_52 Q K2 a0 o1 o2 x3 a4 σ := by
  intro D σ S a0 o1 r1 o2 r2 x3 a4 i4 h L0 X0 A0 A1 A2 A4 hp
  unfold f_X11_letGo_52 at hp
  unfold w_X11_letGo_52
  replace hp := mrd_some hp
  rw [h.int 204 2 rfl (by decide) A4]
  obtain ⟨w70, S70, e70, L70, hp⟩ := mb_some hp
  refine q_X11_release h A0 A4 e70 (fun D70 s70 h70 X70 => ?_)
  have X0 := X0.tr L0 X70
  have L0 := L0.tr L70
  replace hp := mrd_some hp
  have A4_s70 := A4.up L70 X70
  intro o71 ho71
  obtain ⟨r71, e71, hp⟩ := mbo_some hp
  have B71 := h70.refr 205 2 10 rfl A4_s70
  rw [← ho71, ← e71] at B71
  refine ⟨fun c => ?_, fun a73 c => ?_⟩
  · replace hp := mcase_n hp (B71.no c)
    have A0_s70 := A0.up L70 X70
    have A1_s70 := A1.up L70 X70
    have A2_s70 := A2.up L70 X70
    exact hK2 _ _ _ _ _ _ _ _ _ h70 L0 X0 A0_s70 A1_s70 A2_s70 hp
  · obtain ⟨i73, e73, B73⟩ := B71.sa c
    replace hp := mcase_s hp e73
    intro o74 ho74
    obtain ⟨r74, e74, hp⟩ := mbo_some hp
    have B74 := h70.refr 205 2 10 rfl A4_s70
    rw [← ho74, ← e74] at B74
    obtain ⟨i75, e75, hp⟩ := mopt_some hp
    obtain ⟨a75, p75, B75⟩ := B74.so e75
    refine ⟨a75, p75, ?_⟩
    intro s76 es76
    obtain ⟨S76, z76, L76, hp⟩ := mst_some hp
    have h76 := h70.wI (rfl : 1005 / 100 = 10) (by decide) (by decide) B75 es76
    rw [z76] at h76
    have L0 := L0.tr L76
    have A0_s70 := A0.up L70 X70
    have A0_s76 := A0_s70.up L76 (DX.rf _ _)
    have A1_s70 := A1.up L70 X70
    have A1_s76 := A1_s70.up L76 (DX.rf _ _)
    have A2_s70 := A2.up L70 X70
    have A2_s76 := A2_s70.up L76 (DX.rf _ _)
    exact hK2 _ _ _ _ _ _ _ _ _ h76 L0 X0 A0_s76 A1_s76 A2_s76 hp
set_option maxRecDepth 100000 in
set_option maxHeartbeats 1000000 in
theorem q_X11_letGo_2 {D0 : Nat → Nat → Nat} {S0 S' : Ss} {r : Unit} {Q : St → Prop} (hq : ∀ D σ S, RC D σ S → zle S0 S → DX S0 D0 D → (mret ()).1 S = some (r, S') → Q σ) : ∀ (f : Nat) (D : Nat → Nat → Nat) (σ : St) (S : Ss) (a0 : Nat) (o1 : Option Nat) (r1 : Option Nat) (o2 : Option Nat) (r2 : Option Nat) (x3 : Int32), RC D σ S → zle S0 S → DX S0 D0 D → AT D S 11 0 a0 → ATo D S 7 r1 o1 → ATo D S 5 r2 o2 → (f_X11_letGo_2 f r1 r2 x3).1 S = some (r, S') → w_X11_letGo_2 Q  f a0 o1 o2 x3 σ := by
  intro f
  induction f with
  | zero => intro D σ S a0 o1 r1 o2 r2 x3 h L0 X0 A0 A1 A2 hp; cases hp
  | succ f ih =>
    intro D σ S a0 o1 r1 o2 r2 x3 h L0 X0 A0 A1 A2 hp
    unfold f_X11_letGo_2 at hp
    unfold w_X11_letGo_2
    replace hp := mrd_some hp
    intro o51 ho51
    obtain ⟨b51, p51, B51⟩ := h.lis 1107 11 2 rfl A0 ((lv_o (by decide)).mp A0.1) ho51
    refine ⟨b51, p51, ?_⟩
    obtain ⟨x53, ex53, hp⟩ := mbo_some hp
    refine q_size h (show lF 1107 11 2 = true from rfl) B51 ex53 ?_
    refine ⟨fun c => ?_, fun c => ?_⟩
    · replace hp := mif_t hp c
      obtain ⟨w57, S57, e57, L57, hp⟩ := mb_some hp
      refine q_X11_dropEmptyHoldings h A0 e57 (fun D57 s57 h57 X57 => ?_)
      have X0 := X0.tr L0 X57
      have L0 := L0.tr L57
      exact hq _ _ _ h57 L0 X0 hp
    · replace hp := mif_f hp c
      intro o58 ho58
      obtain ⟨b58, p58, B58⟩ := h.lis 1107 11 2 rfl A0 ((lv_o (by decide)).mp A0.1) ho58
      refine ⟨b58, p58, ?_⟩
      obtain ⟨i60, e60, hp⟩ := mlget_some hp
      refine q_get h (show lF 1107 11 2 = true from rfl) B58 e60 (fun b60 B60 => ?_)
      refine ⟨b60, rfl, ?_⟩
      refine ⟨h.ob (by decide) B60, ?_⟩
      intro o64 ho64
      obtain ⟨r64, e64, hp⟩ := mbo_some hp
      have B64 := h.refr 200 2 7 rfl B60
      rw [← ho64, ← e64] at B64
      refine ⟨fun c => ?_, fun a66 c => ?_⟩
      · replace hp := mcase_n hp (B64.no c)
        exact ih _ _ _ _ _ _ _ _ _ h L0 X0 A0 A1 A2 hp
      · obtain ⟨i66, e66, B66⟩ := B64.sa c
        replace hp := mcase_s hp e66
        intro o67 ho67
        obtain ⟨r67, e67, hp⟩ := mbo_some hp
        have B67 := h.refr 200 2 7 rfl B60
        rw [← ho67, ← e67] at B67
        refine ⟨fun c => ?_, fun c => ?_⟩
        · replace hp := mif_t hp ((h.oo (by decide) B67 A1).mp c)
          exact q_X11_letGo_52 hq ih  _ _ _ _ _ _ _ _ _ _ _ h L0 X0 A0 A1 A2 B60 hp
        · replace hp := mif_f hp (fun q => c ((h.oo (by decide) B67 A1).mpr q))
          intro o77 ho77
          obtain ⟨r77, e77, hp⟩ := mbo_some hp
          have B77 := h.refr 203 2 5 rfl B60
          rw [← ho77, ← e77] at B77
          refine ⟨fun c => ?_, fun c => ?_⟩
          · replace hp := mif_f hp (fun q => c ((h.oo (by decide) B77 A2).mpr q))
            exact ih _ _ _ _ _ _ _ _ _ h L0 X0 A0 A1 A2 hp
          · replace hp := mif_t hp ((h.oo (by decide) B77 A2).mp c)
            exact q_X11_letGo_52 hq ih  _ _ _ _ _ _ _ _ _ _ _ h L0 X0 A0 A1 A2 B60 hp
set_option maxRecDepth 100000 in
set_option maxHeartbeats 1000000 in
theorem q_X11_letGo {D : Nat → Nat → Nat} {σ : St} {S S' : Ss} {a0 : Nat} {o1 : Option Nat} {r1 : Option Nat} {o2 : Option Nat} {r2 : Option Nat} {r : Unit} (h : RC D σ S) (A0 : AT D S 11 0 a0) (A1 : ATo D S 7 r1 o1) (A2 : ATo D S 5 r2 o2) (hp : (f_X11_letGo r1 r2).1 S = some (r, S')) {Q : St → Prop} (hq : ∀ D' τ, RC D' τ S' → DX S D D' → Q τ) : w_X11_letGo a0 o1 o2 σ Q := by
  have L0 := zle.rf S
  have X0 := DX.rf S D
  replace hq : ∀ D9 σ9 S9, RC D9 σ9 S9 → zle S S9 → DX S D D9 → (mret ()).1 S9 = some (r, S') → Q σ9 := fun D9 σ9 S9 h9 _ X9 e9 => by obtain ⟨rfl, rfl⟩ := mret_some e9; exact hq D9 σ9 h9 X9
  unfold f_X11_letGo at hp
  unfold w_X11_letGo
  refine ⟨FU, ?_⟩
  exact q_X11_letGo_2 hq FU _ _ _ _ _ _ _ _ _ h L0 X0 A0 A1 A2 hp
set_option maxRecDepth 100000 in
set_option maxHeartbeats 1000000 in
theorem q_X11_others {D : Nat → Nat → Nat} {σ : St} {S S' : Ss} {a0 : Nat} {x1 : Int32} {r : Nat × Int32} (h : RC D σ S) (A0 : AT D S 11 0 a0) (hp : (f_X11_others x1).1 S = some (r, S')) {k n : Nat} (hk : zN S' 61 ≤ zN S 61 + k) (hn : zN S' 62 ≤ zN S 62 + n) {Q : Int32 → St → Prop} (hq : ∀ D' τ, RC D' τ S' → DX S D D' → r.1 = 0 → Q r.2 τ) {Y : Nat → St → Prop} (hy : ∀ D' τ u, RC D' τ S' → DX S D D' → r.1 = u → ¬ u = 0 → Y u τ) : w_X11_others k n a0 x1 σ Q Y := by
  have L0 := zle.rf S
  have X0 := DX.rf S D
  replace hq : ∀ D9 σ9 S9 x, RC D9 σ9 S9 → zle S S9 → DX S D D9 → (mret (0, x)).1 S9 = some (r, S') → Q x σ9 := fun D9 σ9 S9 x h9 _ X9 e9 => by obtain ⟨rfl, rfl⟩ := mret_some e9; exact hq D9 σ9 h9 X9 rfl
  replace hy : ∀ D9 σ9 S9 u, RC D9 σ9 S9 → zle S S9 → DX S D D9 → (mthr u).1 S9 = some (r, S') → ¬ u = 0 → Y u σ9 := fun D9 σ9 S9 u h9 _ X9 e9 n9 => by cases e9; exact hy D9 σ9 u (h9.cost _ _) X9 rfl n9
  unfold f_X11_others at hp
  unfold w_X11_others
  obtain ⟨x51, S52, e52, L52, hp⟩ := mb_some hp
  refine q_X11_isNotice h A0 e52 (fun D52 s52 h52 X52 => ?_)
  have hk := bup hk (L52 61)
  have hn := bup hn (L52 62)
  have X0 := X0.tr L0 X52
  have L0 := L0.tr L52
  refine ⟨fun c => ?_, fun c => ?_⟩
  · replace hp := mif_f hp c
    have A0_s52 := A0.up L52 X52
    obtain ⟨x54, S55, e55, L55, hp⟩ := mb_some hp
    refine q_X11_piecesThatCame h52 A0_s52 e55 (fun D55 s55 h55 X55 => ?_)
    have hk := bup hk (L55 61)
    have hn := bup hn (L55 62)
    have X0 := X0.tr L0 X55
    have L0 := L0.tr L55
    exact hq _ _ _ _ h55 L0 X0 hp
  · replace hp := mif_t hp c
    have hb := mthr_b hp hk hn
    exact ⟨hb.1, hb.2, hy _ _ _ _ h52 L0 X0 hp (by decide)⟩
set_option maxRecDepth 100000 in
set_option maxHeartbeats 1000000 in
theorem q_X11_receive {D : Nat → Nat → Nat} {σ : St} {S S' : Ss} {a0 : Nat} {x1 : Int32} {x2 : Int32} {x3 : Int32} {r : Nat × Int32} (h : RC D σ S) (A0 : AT D S 11 0 a0) (hp : (f_X11_receive x1 x2 x3).1 S = some (r, S')) {k n : Nat} (hk : zN S' 61 ≤ zN S 61 + k) (hn : zN S' 62 ≤ zN S 62 + n) {Q : Int32 → St → Prop} (hq : ∀ D' τ, RC D' τ S' → DX S D D' → r.1 = 0 → Q r.2 τ) {Y : Nat → St → Prop} (hy : ∀ D' τ u, RC D' τ S' → DX S D D' → r.1 = u → ¬ u = 0 → Y u τ) : w_X11_receive k n a0 x1 x2 x3 σ Q Y := by
  have L0 := zle.rf S
  have X0 := DX.rf S D
  replace hq : ∀ D9 σ9 S9 x, RC D9 σ9 S9 → zle S S9 → DX S D D9 → (mret (0, x)).1 S9 = some (r, S') → Q x σ9 := fun D9 σ9 S9 x h9 _ X9 e9 => by obtain ⟨rfl, rfl⟩ := mret_some e9; exact hq D9 σ9 h9 X9 rfl
  replace hy : ∀ D9 σ9 S9 u, RC D9 σ9 S9 → zle S S9 → DX S D D9 → (mthr u).1 S9 = some (r, S') → ¬ u = 0 → Y u σ9 := fun D9 σ9 S9 u h9 _ X9 e9 n9 => by cases e9; exact hy D9 σ9 u (h9.cost _ _) X9 rfl n9
  unfold f_X11_receive at hp
  unfold w_X11_receive
  obtain ⟨x51, S52, e52, L52, hp⟩ := mb_some hp
  refine q_X11_isNotice h A0 e52 (fun D52 s52 h52 X52 => ?_)
  have hk := bup hk (L52 61)
  have hn := bup hn (L52 62)
  have X0 := X0.tr L0 X52
  have L0 := L0.tr L52
  refine ⟨fun c => ?_, fun c => ?_⟩
  · replace hp := mif_t hp c
    have hb := mthr_b hp hk hn
    exact ⟨hb.1, hb.2, hy _ _ _ _ h52 L0 X0 hp (by decide)⟩
  · replace hp := mif_f hp c
    have A0_s52 := A0.up L52 X52
    obtain ⟨x54, S55, e55, L55, hp⟩ := mb_some hp
    refine q_X11_isLot h52 A0_s52 e55 (fun D55 s55 h55 X55 => ?_)
    have hk := bup hk (L55 61)
    have hn := bup hn (L55 62)
    have X0 := X0.tr L0 X55
    have L0 := L0.tr L55
    refine ⟨fun c => ?_, fun c => ?_⟩
    · replace hp := mif_f hp c
      obtain ⟨x57, S58, e58, L58, hp⟩ := mb_some hp
      refine q_X11_isWithin h55  e58 (fun D58 s58 h58 X58 => ?_)
      have hk := bup hk (L58 61)
      have hn := bup hn (L58 62)
      have X0 := X0.tr L0 X58
      have L0 := L0.tr L58
      replace hp := mrd_some hp
      refine ⟨fun c => ?_, fun c => ?_⟩
      · replace hp := mif_f hp c
        have A0_s55 := A0_s52.up L55 X55
        have A0_s58 := A0_s55.up L58 X58
        intro o60 ho60
        obtain ⟨b60, p60, B60⟩ := h58.lis 1105 11 6 rfl A0_s58 ((lv_o (by decide)).mp A0_s58.1) ho60
        refine ⟨b60, p60, ?_⟩
        obtain ⟨i62, e62, hp⟩ := mlget_some hp
        refine q_get h58 (show lF 1105 11 6 = true from rfl) B60 e62 (fun b62 B62 => ?_)
        refine ⟨b62, rfl, ?_⟩
        refine ⟨h58.ob (by decide) B62, ?_⟩
        refine ⟨fun c => ?_, fun c => ?_⟩
        · rw [h58.int 602 6 rfl (by decide) B62] at c
          replace hp := mif_t hp c
          intro o67 ho67
          obtain ⟨b67, p67, B67⟩ := h58.cel 1110 11 rfl A0_s58 ho67
          refine ⟨b67, p67, ?_⟩
          obtain ⟨S70, z70, L70, hp⟩ := mst_some hp
          refine q_addc h58 (show cF 1110 11 = true from rfl) B67 (fun s70 h70 => ?_)
          rw [z70] at h70
          have L0 := L0.tr L70
          have hk := bup hk (L70 61)
          have hn := bup hn (L70 62)
          have A0_s70 := A0_s58.up L70 (DX.rf _ _)
          intro o71 ho71
          obtain ⟨b71, p71, B71⟩ := h70.bok A0_s70 ho71
          intro o72 ho72
          obtain ⟨b72, p72, B72⟩ := h70.lis 1103 11 5 rfl A0_s70 ((lv_o (by decide)).mp A0_s70.1) ho72
          refine ⟨b72, p72, ?_⟩
          obtain ⟨i74, e74, hp⟩ := mlget_some hp
          refine q_get h70 (show lF 1103 11 5 = true from rfl) B72 e74 (fun b74 B74 => ?_)
          refine ⟨b74, rfl, ?_⟩
          refine ⟨h70.ob (by decide) B74, ?_⟩
          refine ⟨b71, p71, ?_⟩
          obtain ⟨w80, S80, e80, L80, hp⟩ := mb_some hp
          have M80 := mle hp
          obtain ⟨k81, k83, f1, f2, hk⟩ := bud (L80 61) (M80 61) hk
          obtain ⟨n82, n84, g1, g2, hn⟩ := bud (L80 62) (M80 62) hn
          refine ⟨k81, n82, k83, n84, f1, g1, q_X0_move h70 B71 B74 e80 f2 g2 (fun D80 s80 h80 X80 => ?_)⟩
          have X0 := X0.tr L0 X80
          have L0 := L0.tr L80
          replace hp := mrd_some hp
          intro s87 es87
          have A0_s80 := A0_s70.up L80 X80
          rw [h80.int 1118 11 rfl (by decide) A0_s80] at es87
          obtain ⟨S87, z87, L87, hp⟩ := mst_some hp
          have h87 := h80.wI (rfl : 1118 / 100 = 11) (by decide) (by decide) A0_s80 es87
          rw [z87] at h87
          have L0 := L0.tr L87
          have hk := bup hk (L87 61)
          have hn := bup hn (L87 62)
          replace hp := mrd_some hp
          have A0_s87 := A0_s80.up L87 (DX.rf _ _)
          intro o88 ho88
          obtain ⟨b88, p88, B88⟩ := h87.bok A0_s87 ho88
          refine ⟨b88, p88, ?_⟩
          intro o90 ho90
          obtain ⟨b90, p90, B90⟩ := h87.cel 0 0 rfl B88 ho90
          refine ⟨b90, p90, ?_⟩
          obtain ⟨x92, ex92, hp⟩ := mbo_some hp
          refine q_at h87 (show cF 0 0 = true from rfl) B90 ex92 ?_
          exact hq _ _ _ _ h87 L0 X0 hp
        · rw [h58.int 602 6 rfl (by decide) B62] at c
          replace hp := mif_f hp c
          have hb := mthr_b hp hk hn
          exact ⟨hb.1, hb.2, hy _ _ _ _ h58 L0 X0 hp (by decide)⟩
      · replace hp := mif_t hp c
        have hb := mthr_b hp hk hn
        exact ⟨hb.1, hb.2, hy _ _ _ _ h58 L0 X0 hp (by decide)⟩
    · replace hp := mif_t hp c
      have hb := mthr_b hp hk hn
      exact ⟨hb.1, hb.2, hy _ _ _ _ h55 L0 X0 hp (by decide)⟩
set_option maxRecDepth 100000 in
set_option maxHeartbeats 1000000 in
theorem q_X11_sendStand_4 {D0 : Nat → Nat → Nat} {S0 S' : Ss} {r : Int32} {Q : Int32 → St → Prop} (hq : ∀ D σ S x, RC D σ S → zle S0 S → DX S0 D0 D → (mret x).1 S = some (r, S') → Q x σ) : ∀ (f : Nat) (D : Nat → Nat → Nat) (σ : St) (S : Ss) (a0 : Nat) (x1 : Int32) (x2 : Int32) (x3 : Int32), RC D σ S → zle S0 S → DX S0 D0 D → AT D S 11 0 a0 → (f_X11_sendStand_4 f x1 x2 x3).1 S = some (r, S') → ∀ k n : Nat, zN S' 61 ≤ zN S 61 + k → zN S' 62 ≤ zN S 62 + n → w_X11_sendStand_4 Q  f a0 x1 x2 x3 σ k n := by
  intro f
  induction f with
  | zero => intro D σ S a0 x1 x2 x3 h L0 X0 A0 hp k n hk hn; cases hp
  | succ f ih =>
    intro D σ S a0 x1 x2 x3 h L0 X0 A0 hp k n hk hn
    unfold f_X11_sendStand_4 at hp
    unfold w_X11_sendStand_4
    replace hp := mrd_some hp
    intro o51 ho51
    obtain ⟨b51, p51, B51⟩ := h.lis 1103 11 5 rfl A0 ((lv_o (by decide)).mp A0.1) ho51
    refine ⟨b51, p51, ?_⟩
    obtain ⟨x53, ex53, hp⟩ := mbo_some hp
    refine q_size h (show lF 1103 11 5 = true from rfl) B51 ex53 ?_
    refine ⟨fun c => ?_, fun c => ?_⟩
    · replace hp := mif_t hp c
      exact hq _ _ _ _ h L0 X0 hp
    · replace hp := mif_f hp c
      intro o56 ho56
      obtain ⟨b56, p56, B56⟩ := h.lis 1103 11 5 rfl A0 ((lv_o (by decide)).mp A0.1) ho56
      refine ⟨b56, p56, ?_⟩
      obtain ⟨i58, e58, hp⟩ := mlget_some hp
      refine q_get h (show lF 1103 11 5 = true from rfl) B56 e58 (fun b58 B58 => ?_)
      refine ⟨b58, rfl, ?_⟩
      refine ⟨h.ob (by decide) B58, ?_⟩
      intro o62 ho62
      obtain ⟨b62, p62, B62⟩ := h.bok A0 ho62
      refine ⟨b62, p62, ?_⟩
      intro o64 ho64
      obtain ⟨b64, p64, B64⟩ := h.cel 0 0 rfl B62 ho64
      refine ⟨b64, p64, ?_⟩
      obtain ⟨x66, ex66, hp⟩ := mbo_some hp
      refine q_at h (show cF 0 0 = true from rfl) B64 ex66 ?_
      intro o68 ho68
      obtain ⟨b68, p68, B68⟩ := h.cel 1112 11 rfl A0 ho68
      intro o69 ho69
      obtain ⟨r69, e69, hp⟩ := mbo_some hp
      have B69 := h.refr 501 5 3 rfl B58
      rw [← ho69, ← e69] at B69
      obtain ⟨i70, e70, hp⟩ := mopt_some hp
      obtain ⟨a70, p70, B70⟩ := B69.so e70
      refine ⟨a70, p70, ?_⟩
      refine ⟨b68, p68, ?_⟩
      rw [h.int 300 3 rfl (by decide) B70]
      obtain ⟨S73, z73, L73, hp⟩ := mst_some hp
      refine q_addc h (show cF 1112 11 = true from rfl) B68 (fun s73 h73 => ?_)
      rw [z73] at h73
      have L0 := L0.tr L73
      have hk := bup hk (L73 61)
      have hn := bup hn (L73 62)
      have A0_s73 := A0.up L73 (DX.rf _ _)
      intro o74 ho74
      obtain ⟨b74, p74, B74⟩ := h73.cel 1111 11 rfl A0_s73 ho74
      refine ⟨b74, p74, ?_⟩
      obtain ⟨S77, z77, L77, hp⟩ := mst_some hp
      refine q_addc h73 (show cF 1111 11 = true from rfl) B74 (fun s77 h77 => ?_)
      rw [z77] at h77
      have L0 := L0.tr L77
      have hk := bup hk (L77 61)
      have hn := bup hn (L77 62)
      have A0_s77 := A0_s73.up L77 (DX.rf _ _)
      intro o78 ho78
      obtain ⟨b78, p78, B78⟩ := h77.bok A0_s77 ho78
      refine ⟨b78, p78, ?_⟩
      have B58_s73 := B58.up L73 (DX.rf _ _)
      have B58_s77 := B58_s73.up L77 (DX.rf _ _)
      obtain ⟨w81, S81, e81, L81, hp⟩ := mb_some hp
      have M81 := mle hp
      obtain ⟨k82, k84, f1, f2, hk⟩ := bud (L81 61) (M81 61) hk
      obtain ⟨n83, n85, g1, g2, hn⟩ := bud (L81 62) (M81 62) hn
      refine ⟨k82, n83, k84, n85, f1, g1, q_X0_move h77 B78 B58_s77 e81 f2 g2 (fun D81 s81 h81 X81 => ?_)⟩
      have X0 := X0.tr L0 X81
      have L0 := L0.tr L81
      intro x88 hx88
      obtain ⟨yx88, ex88, hp⟩ := mbo_some hp
      obtain rfl : yx88 = x88 := ex88.trans hx88.symm
      have A0_s81 := A0_s77.up L81 X81
      exact ih _ _ _ _ _ _ _ h81 L0 X0 A0_s81 hp _ _ hk hn
set_option maxRecDepth 100000 in
set_option maxHeartbeats 1000000 in
theorem q_X11_sendStand {D : Nat → Nat → Nat} {σ : St} {S S' : Ss} {a0 : Nat} {x1 : Int32} {r : Int32} (h : RC D σ S) (A0 : AT D S 11 0 a0) (hp : (f_X11_sendStand x1).1 S = some (r, S')) {k n : Nat} (hk : zN S' 61 ≤ zN S 61 + k) (hn : zN S' 62 ≤ zN S 62 + n) {Q : Int32 → St → Prop} (hq : ∀ D' τ, RC D' τ S' → DX S D D' → Q r τ) : w_X11_sendStand k n a0 x1 σ Q := by
  have L0 := zle.rf S
  have X0 := DX.rf S D
  replace hq : ∀ D9 σ9 S9 x, RC D9 σ9 S9 → zle S S9 → DX S D D9 → (mret x).1 S9 = some (r, S') → Q x σ9 := fun D9 σ9 S9 x h9 _ X9 e9 => by obtain ⟨rfl, rfl⟩ := mret_some e9; exact hq D9 σ9 h9 X9
  unfold f_X11_sendStand at hp
  unfold w_X11_sendStand
  refine ⟨FU, ?_⟩
  exact q_X11_sendStand_4 hq FU _ _ _ _ _ _ _ h L0 X0 A0 hp _ _ hk hn
set_option maxRecDepth 100000 in
set_option maxHeartbeats 1000000 in
theorem q_X11_shorten_55 {D0 : Nat → Nat → Nat} {S0 S' : Ss} {r : Unit} {Q : St → Prop} (hq : ∀ D σ S, RC D σ S → zle S0 S → DX S0 D0 D → (mret ()).1 S = some (r, S') → Q σ) {K45 : Nat → Int32 → Nat → Option Nat → Int32 → Int32 → St → Nat → Nat → Prop} {LK45 : Int32 → Nat → Option Nat → Int32 → Int32 → MM (Unit)} (hK45 : ∀ (D : Nat → Nat → Nat) (σ : St) (S : Ss) (a0 : Nat) (x1 : Int32) (a2 : Nat) (i2 : Nat) (o3 : Option Nat) (r3 : Option Nat) (x4 : Int32) (x5 : Int32), RC D σ S → zle S0 S → DX S0 D0 D → AT D S 11 0 a0 → AT D S 5 i2 a2 → ATo D S 2 r3 o3 → (LK45 x1 i2 r3 x4 x5).1 S = some (r, S') → ∀ k n : Nat, zN S' 61 ≤ zN S 61 + k → zN S' 62 ≤ zN S 62 + n → K45 a0 x1 a2 o3 x4 x5 σ k n) : ∀ (f : Nat) (D : Nat → Nat → Nat) (σ : St) (S : Ss) (a0 : Nat) (x1 : Int32) (a2 : Nat) (i2 : Nat) (o3 : Option Nat) (r3 : Option Nat) (x4 : Int32) (x5 : Int32) (x6 : Int32), RC D σ S → zle S0 S → DX S0 D0 D → AT D S 11 0 a0 → AT D S 5 i2 a2 → ATo D S 2 r3 o3 → (f_X11_shorten_55 LK45 f x1 i2 r3 x4 x5 x6).1 S = some (r, S') → ∀ k n : Nat, zN S' 61 ≤ zN S 61 + k → zN S' 62 ≤ zN S 62 + n → w_X11_shorten_55 Q K45 f a0 x1 a2 o3 x4 x5 x6 σ k n := by
  intro f
  induction f with
  | zero => intro D σ S a0 x1 a2 i2 o3 r3 x4 x5 x6 h L0 X0 A0 A2 A3 hp k n hk hn; cases hp
  | succ f ih =>
    intro D σ S a0 x1 a2 i2 o3 r3 x4 x5 x6 h L0 X0 A0 A2 A3 hp k n hk hn
    unfold f_X11_shorten_55 at hp
    unfold w_X11_shorten_55
    replace hp := mrd_some hp
    intro o72 ho72
    obtain ⟨b72, p72, B72⟩ := h.lis 1107 11 2 rfl A0 ((lv_o (by decide)).mp A0.1) ho72
    refine ⟨b72, p72, ?_⟩
    obtain ⟨x74, ex74, hp⟩ := mbo_some hp
    refine q_size h (show lF 1107 11 2 = true from rfl) B72 ex74 ?_
    refine ⟨fun c => ?_, fun c => ?_⟩
    · replace hp := mif_t hp c
      exact hK45 _ _ _ _ _ _ _ _ _ _ _ h L0 X0 A0 A2 A3 hp _ _ hk hn
    · replace hp := mif_f hp c
      intro o77 ho77
      obtain ⟨b77, p77, B77⟩ := h.lis 1107 11 2 rfl A0 ((lv_o (by decide)).mp A0.1) ho77
      refine ⟨b77, p77, ?_⟩
      obtain ⟨i79, e79, hp⟩ := mlget_some hp
      refine q_get h (show lF 1107 11 2 = true from rfl) B77 e79 (fun b79 B79 => ?_)
      refine ⟨b79, rfl, ?_⟩
      refine ⟨h.ob (by decide) B79, ?_⟩
      refine ⟨fun c => ?_, fun c => ?_⟩
      · replace hp := mif_t hp ((h.oo (by decide) (B79.sm) A3).mp c)
        exact ih _ _ _ _ _ _ _ _ _ _ _ _ h L0 X0 A0 A2 A3 hp _ _ hk hn
      · replace hp := mif_f hp (fun q => c ((h.oo (by decide) (B79.sm) A3).mpr q))
        obtain ⟨x84, S85, e85, L85, hp⟩ := mb_some hp
        refine q_X2_turn h B79 e85 (fun D85 s85 h85 X85 => ?_)
        have hk := bup hk (L85 61)
        have hn := bup hn (L85 62)
        have X0 := X0.tr L0 X85
        have L0 := L0.tr L85
        refine ⟨fun c => ?_, fun c => ?_⟩
        · replace hp := mif_f hp c
          have A0_s85 := A0.up L85 X85
          have A2_s85 := A2.up L85 X85
          have A3_s85 := A3.up L85 X85
          exact ih _ _ _ _ _ _ _ _ _ _ _ _ h85 L0 X0 A0_s85 A2_s85 A3_s85 hp _ _ hk hn
        · replace hp := mif_t hp c
          have B79_s85 := B79.up L85 X85
          have A2_s85 := A2.up L85 X85
          obtain ⟨x87, S88, e88, L88, hp⟩ := mb_some hp
          refine q_X2_isOf h85 B79_s85 A2_s85 e88 (fun D88 s88 h88 X88 => ?_)
          have hk := bup hk (L88 61)
          have hn := bup hn (L88 62)
          have X0 := X0.tr L0 X88
          have L0 := L0.tr L88
          refine ⟨fun c => ?_, fun c => ?_⟩
          · replace hp := mif_t hp c
            have A0_s85 := A0.up L85 X85
            have A0_s88 := A0_s85.up L88 X88
            have A2_s88 := A2_s85.up L88 X88
            have A3_s85 := A3.up L85 X85
            have A3_s88 := A3_s85.up L88 X88
            exact ih _ _ _ _ _ _ _ _ _ _ _ _ h88 L0 X0 A0_s88 A2_s88 A3_s88 hp _ _ hk hn
          · replace hp := mif_f hp c
            have A0_s85 := A0.up L85 X85
            have A0_s88 := A0_s85.up L88 X88
            have B79_s88 := B79_s85.up L88 X88
            obtain ⟨x90, S91, e91, L91, hp⟩ := mb_some hp
            refine q_X11_cut h88 A0_s88 B79_s88 e91 (fun D91 s91 h91 X91 => ?_)
            have hk := bup hk (L91 61)
            have hn := bup hn (L91 62)
            have X0 := X0.tr L0 X91
            have L0 := L0.tr L91
            intro x92 hx92
            obtain ⟨yx92, ex92, hp⟩ := mbo_some hp
            obtain rfl : yx92 = x92 := ex92.trans hx92.symm
            have A0_s91 := A0_s88.up L91 X91
            have A2_s88 := A2_s85.up L88 X88
            have A2_s91 := A2_s88.up L91 X91
            have A3_s85 := A3.up L85 X85
            have A3_s88 := A3_s85.up L88 X88
            have A3_s91 := A3_s88.up L91 X91
            exact ih _ _ _ _ _ _ _ _ _ _ _ _ h91 L0 X0 A0_s91 A2_s91 A3_s91 hp _ _ hk hn
set_option maxRecDepth 100000 in
set_option maxHeartbeats 1000000 in
theorem q_X11_shorten_45 {D0 : Nat → Nat → Nat} {S0 S' : Ss} {r : Unit} {Q : St → Prop} (hq : ∀ D σ S, RC D σ S → zle S0 S → DX S0 D0 D → (mret ()).1 S = some (r, S') → Q σ) : ∀ (f : Nat) (D : Nat → Nat → Nat) (σ : St) (S : Ss) (a0 : Nat) (x1 : Int32) (a2 : Nat) (i2 : Nat) (o3 : Option Nat) (r3 : Option Nat) (x4 : Int32) (x5 : Int32), RC D σ S → zle S0 S → DX S0 D0 D → AT D S 11 0 a0 → AT D S 5 i2 a2 → ATo D S 2 r3 o3 → (f_X11_shorten_45 f x1 i2 r3 x4 x5).1 S = some (r, S') → ∀ k n : Nat, zN S' 61 ≤ zN S 61 + k → zN S' 62 ≤ zN S 62 + n → w_X11_shorten_45 Q  f a0 x1 a2 o3 x4 x5 σ k n := by
  intro f
  induction f with
  | zero => intro D σ S a0 x1 a2 i2 o3 r3 x4 x5 h L0 X0 A0 A2 A3 hp k n hk hn; cases hp
  | succ f ih =>
    intro D σ S a0 x1 a2 i2 o3 r3 x4 x5 h L0 X0 A0 A2 A3 hp k n hk hn
    unfold f_X11_shorten_45 at hp
    unfold w_X11_shorten_45
    refine ⟨fun c => ?_, fun c => ?_⟩
    · replace hp := mif_t hp c
      obtain ⟨w71, S71, e71, L71, hp⟩ := mb_some hp
      refine q_X11_dropEmptyHoldings h A0 e71 (fun D71 s71 h71 X71 => ?_)
      have hk := bup hk (L71 61)
      have hn := bup hn (L71 62)
      have X0 := X0.tr L0 X71
      have L0 := L0.tr L71
      exact hq _ _ _ h71 L0 X0 hp
    · replace hp := mif_f hp c
      refine ⟨FU, ?_⟩
      exact q_X11_shorten_55 hq ih FU _ _ _ _ _ _ _ _ _ _ _ _ h L0 X0 A0 A2 A3 hp _ _ hk hn
set_option maxRecDepth 100000 in
set_option maxHeartbeats 1000000 in
theorem q_X11_shorten {D : Nat → Nat → Nat} {σ : St} {S S' : Ss} {a0 : Nat} {x1 : Int32} {a2 : Nat} {i2 : Nat} {o3 : Option Nat} {r3 : Option Nat} {r : Unit} (h : RC D σ S) (A0 : AT D S 11 0 a0) (A2 : AT D S 5 i2 a2) (A3 : ATo D S 2 r3 o3) (hp : (f_X11_shorten x1 i2 r3).1 S = some (r, S')) {k n : Nat} (hk : zN S' 61 ≤ zN S 61 + k) (hn : zN S' 62 ≤ zN S 62 + n) {Q : St → Prop} (hq : ∀ D' τ, RC D' τ S' → DX S D D' → Q τ) : w_X11_shorten k n a0 x1 a2 o3 σ Q := by
  have L0 := zle.rf S
  have X0 := DX.rf S D
  replace hq : ∀ D9 σ9 S9, RC D9 σ9 S9 → zle S S9 → DX S D D9 → (mret ()).1 S9 = some (r, S') → Q σ9 := fun D9 σ9 S9 h9 _ X9 e9 => by obtain ⟨rfl, rfl⟩ := mret_some e9; exact hq D9 σ9 h9 X9
  unfold f_X11_shorten at hp
  unfold w_X11_shorten
  intro o51 ho51
  obtain ⟨b51, p51, B51⟩ := h.bok A0 ho51
  refine ⟨b51, p51, ?_⟩
  obtain ⟨w54, S54, e54, L54, hp⟩ := mb_some hp
  have M54 := mle hp
  obtain ⟨k55, k57, f1, f2, hk⟩ := bud (L54 61) (M54 61) hk
  obtain ⟨n56, n58, g1, g2, hn⟩ := bud (L54 62) (M54 62) hn
  refine ⟨k55, n56, k57, n58, f1, g1, q_X0_believeTruth h B51 A2 e54 f2 g2 (fun D54 s54 h54 X54 => ?_)⟩
  have X0 := X0.tr L0 X54
  have L0 := L0.tr L54
  replace hp := mrd_some hp
  have A0_s54 := A0.up L54 X54
  intro o61 ho61
  obtain ⟨b61, p61, B61⟩ := h54.bok A0_s54 ho61
  refine ⟨b61, p61, ?_⟩
  intro o63 ho63
  obtain ⟨b63, p63, B63⟩ := h54.cel 0 0 rfl B61 ho63
  refine ⟨b63, p63, ?_⟩
  have A2_s54 := A2.up L54 X54
  rw [h54.int 500 5 rfl (by decide) A2_s54]
  obtain ⟨x65, ex65, hp⟩ := mbo_some hp
  refine q_at h54 (show cF 0 0 = true from rfl) B63 ex65 ?_
  have A3_s54 := A3.up L54 X54
  refine ⟨fun c => ?_, fun a68 c => ?_⟩
  · replace hp := mcase_n hp (A3_s54.no c)
    refine ⟨FU, ?_⟩
    exact q_X11_shorten_45 hq FU _ _ _ _ _ _ _ _ _ _ _ h54 L0 X0 A0_s54 A2_s54 ATo.nn hp _ _ hk hn
  · obtain ⟨i68, e68, B68⟩ := A3_s54.sa c
    replace hp := mcase_s hp e68
    obtain ⟨x95, S96, e96, L96, hp⟩ := mb_some hp
    refine q_X11_cut h54 A0_s54 B68 e96 (fun D96 s96 h96 X96 => ?_)
    have hk := bup hk (L96 61)
    have hn := bup hn (L96 62)
    have X0 := X0.tr L0 X96
    have L0 := L0.tr L96
    intro x97 hx97
    obtain ⟨yx97, ex97, hp⟩ := mbo_some hp
    obtain rfl : yx97 = x97 := ex97.trans hx97.symm
    refine ⟨FU, ?_⟩
    have A0_s96 := A0_s54.up L96 X96
    have A2_s96 := A2_s54.up L96 X96
    have B68_s96 := B68.up L96 X96
    exact q_X11_shorten_45 hq FU _ _ _ _ _ _ _ _ _ _ _ h96 L0 X0 A0_s96 A2_s96 (B68_s96.sm) hp _ _ hk hn
set_option maxRecDepth 100000 in
set_option maxHeartbeats 1000000 in
theorem q_X11_slotToPutInto_8 {D0 : Nat → Nat → Nat} {S0 S' : Ss} {r : Int32} {Q : Int32 → St → Prop} (hq : ∀ D σ S x, RC D σ S → zle S0 S → DX S0 D0 D → (mret x).1 S = some (r, S') → Q x σ) : ∀ (f : Nat) (D : Nat → Nat → Nat) (σ : St) (S : Ss) (a0 : Nat) (a1 : Nat) (i1 : Nat) (x2 : Int32) (x3 : Int32) (x4 : Int32) (x5 : Int32), RC D σ S → zle S0 S → DX S0 D0 D → AT D S 11 0 a0 → AT D S 5 i1 a1 → (f_X11_slotToPutInto_8 f i1 x2 x3 x4 x5).1 S = some (r, S') → w_X11_slotToPutInto_8 Q  f a0 a1 x2 x3 x4 x5 σ := by
  intro f
  induction f with
  | zero => intro D σ S a0 a1 i1 x2 x3 x4 x5 h L0 X0 A0 A1 hp; cases hp
  | succ f ih =>
    intro D σ S a0 a1 i1 x2 x3 x4 x5 h L0 X0 A0 A1 hp
    unfold f_X11_slotToPutInto_8 at hp
    unfold w_X11_slotToPutInto_8
    replace hp := mrd_some hp
    intro o51 ho51
    obtain ⟨b51, p51, B51⟩ := h.arr 1100 9 rfl A0 ho51
    refine ⟨b51, p51, ?_⟩
    refine ⟨fun c => ?_, fun c => ?_⟩
    · rw [h.aln 1100 9 rfl B51] at c
      replace hp := mif_t hp c
      exact hq _ _ _ _ h L0 X0 hp
    · rw [h.aln 1100 9 rfl B51] at c
      replace hp := mif_f hp c
      intro o54 ho54
      obtain ⟨r54, e54, hp⟩ := mbo_some hp
      have B54 := h.refr 501 5 3 rfl A1
      rw [← ho54, ← e54] at B54
      obtain ⟨i55, e55, hp⟩ := mopt_some hp
      obtain ⟨a55, p55, B55⟩ := B54.so e55
      refine ⟨a55, p55, ?_⟩
      obtain ⟨x56, S57, e57, L57, hp⟩ := mb_some hp
      refine q_X11_canTake h A0 B55 e57 (fun D57 s57 h57 X57 => ?_)
      have X0 := X0.tr L0 X57
      have L0 := L0.tr L57
      refine ⟨fun c => ?_, fun c => ?_⟩
      · replace hp := mif_t hp c
        have A0_s57 := A0.up L57 X57
        have A1_s57 := A1.up L57 X57
        exact ih _ _ _ _ _ _ _ _ _ _ h57 L0 X0 A0_s57 A1_s57 hp
      · replace hp := mif_f hp c
        have A0_s57 := A0.up L57 X57
        have A1_s57 := A1.up L57 X57
        obtain ⟨x59, S60, e60, L60, hp⟩ := mb_some hp
        refine q_X11_strangeness h57 A0_s57 A1_s57 e60 (fun D60 s60 h60 X60 => ?_)
        have X0 := X0.tr L0 X60
        have L0 := L0.tr L60
        have A0_s60 := A0_s57.up L60 X60
        obtain ⟨x61, S62, e62, L62, hp⟩ := mb_some hp
        refine q_X11_freeRoom h60 A0_s60 e62 (fun D62 s62 h62 X62 => ?_)
        have X0 := X0.tr L0 X62
        have L0 := L0.tr L62
        intro x63 hx63
        obtain ⟨yx63, ex63, hp⟩ := mbo_some hp
        obtain rfl : yx63 = x63 := ex63.trans hx63.symm
        refine ⟨fun c => ?_, fun c => ?_⟩
        · replace hp := mif_t hp c
          have A0_s62 := A0_s60.up L62 X62
          have A1_s60 := A1_s57.up L60 X60
          have A1_s62 := A1_s60.up L62 X62
          exact ih _ _ _ _ _ _ _ _ _ _ h62 L0 X0 A0_s62 A1_s62 hp
        · replace hp := mif_f hp c
          refine ⟨fun c => ?_, fun c => ?_⟩
          · replace hp := mif_t hp c
            have A0_s62 := A0_s60.up L62 X62
            have A1_s60 := A1_s57.up L60 X60
            have A1_s62 := A1_s60.up L62 X62
            exact ih _ _ _ _ _ _ _ _ _ _ h62 L0 X0 A0_s62 A1_s62 hp
          · replace hp := mif_f hp c
            have A0_s62 := A0_s60.up L62 X62
            have A1_s60 := A1_s57.up L60 X60
            have A1_s62 := A1_s60.up L62 X62
            exact ih _ _ _ _ _ _ _ _ _ _ h62 L0 X0 A0_s62 A1_s62 hp
set_option maxRecDepth 100000 in
set_option maxHeartbeats 1000000 in
theorem q_X11_slotToPutInto {D : Nat → Nat → Nat} {σ : St} {S S' : Ss} {a0 : Nat} {a1 : Nat} {i1 : Nat} {x2 : Int32} {r : Int32} (h : RC D σ S) (A0 : AT D S 11 0 a0) (A1 : AT D S 5 i1 a1) (hp : (f_X11_slotToPutInto i1 x2).1 S = some (r, S')) {Q : Int32 → St → Prop} (hq : ∀ D' τ, RC D' τ S' → DX S D D' → Q r τ) : w_X11_slotToPutInto a0 a1 x2 σ Q := by
  have L0 := zle.rf S
  have X0 := DX.rf S D
  replace hq : ∀ D9 σ9 S9 x, RC D9 σ9 S9 → zle S S9 → DX S D D9 → (mret x).1 S9 = some (r, S') → Q x σ9 := fun D9 σ9 S9 x h9 _ X9 e9 => by obtain ⟨rfl, rfl⟩ := mret_some e9; exact hq D9 σ9 h9 X9
  unfold f_X11_slotToPutInto at hp
  unfold w_X11_slotToPutInto
  refine ⟨FU, ?_⟩
  exact q_X11_slotToPutInto_8 hq FU _ _ _ _ _ _ _ _ _ _ h L0 X0 A0 A1 hp
set_option maxRecDepth 100000 in
set_option maxHeartbeats 1000000 in
theorem q_X11_count_144 {D0 : Nat → Nat → Nat} {S0 S' : Ss} {r : Nat × Int32} {Q : Int32 → St → Prop} (hq : ∀ D σ S x, RC D σ S → zle S0 S → DX S0 D0 D → (mret (0, x)).1 S = some (r, S') → Q x σ) {Y : Nat → St → Prop} (hy : ∀ D σ S u, RC D σ S → zle S0 S → DX S0 D0 D → (mthr u).1 S = some (r, S') → ¬ u = 0 → Y u σ) : ∀ (D : Nat → Nat → Nat) (σ : St) (S : Ss) (a0 : Nat) (x3 : Int32), RC D σ S → zle S0 S → DX S0 D0 D → AT D S 11 0 a0 → (f_X11_count_144 x3).1 S = some (r, S') → ∀ k n : Nat, zN S' 61 ≤ zN S 61 + k → zN S' 62 ≤ zN S 62 + n → w_X11_count_144 Q Y  a0 x3 σ k n := by
  intro D σ S a0 x3 h L0 X0 A0 hp k n hk hn
  unfold f_X11_count_144 at hp
  unfold w_X11_count_144
  replace hp := mrd_some hp
  intro s76 es76
  rw [h.int 1118 11 rfl (by decide) A0] at es76
  obtain ⟨S76, z76, L76, hp⟩ := mst_some hp
  have h76 := h.wI (rfl : 1118 / 100 = 11) (by decide) (by decide) A0 es76
  rw [z76] at h76
  have L0 := L0.tr L76
  have hk := bup hk (L76 61)
  have hn := bup hn (L76 62)
  exact hq _ _ _ _ h76 L0 X0 hp
