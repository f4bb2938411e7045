/-! WORDS: those of the tables that hold behind any call -/
def gTB : List Cond := lw_tbl.filter goodWord
theorem gTm {i : Nat} {w : Cond} (h : tables_1[i]? = some w) (g : goodWord w = true) : w ∈ gTB := List.mem_filter.mpr ⟨List.mem_append_right _ (List.mem_of_getElem? h), g⟩
theorem gTp {i : Nat} {q : MethodName × Nat} (h : lw_privs[i]? = some q) : Cond.selects q.1.cls q.1 q.1 ∈ gTB := List.mem_filter.mpr ⟨List.mem_append_left _ (List.mem_map.mpr ⟨q, List.mem_of_getElem? h, rfl⟩), rfl⟩
theorem gTg {w : Cond} (h : w ∈ gTB) : goodWord w = true := (List.mem_filter.mp h).2
theorem gGood {L : List Cond} (h : ∀ w ∈ L, w ∈ gTB) : GoodIn gTB L := fun w hw => ⟨h w hw, good_of_word (gTg (h w hw))⟩
abbrev gCl : List vw_C := [(RX0, TX0, 8), (RX1, TX1, 2), (RX2, TX2, 6), (RX3, TX3, 6), (RX4, TX4, 4), (RX5, TX5, 4), (RX6, TX6, 3), (RX7, TX7, 7), (RX8, TX8, 4), (RX9, TX9, 5), (RX10, TX10, 7), (RX11, TX11, 19), (RX12, TX12, 65), (RJx4a65c, TJx4a65c, 3)]
/-- the fields of a kind: whether a reference, its number -/
def kF (κ : Nat) : List (Bool × Nat) := match κ with
  | 1 => [(true, 0), (true, 1), (true, 2), (true, 3), (true, 4), (true, 5), (true, 6), (false, 7)]
  | 2 => [(false, 100), (true, 101)]
  | 3 => [(true, 200), (true, 201), (false, 202), (true, 203), (false, 204), (true, 205)]
  | 4 => [(false, 300), (false, 301), (false, 302), (false, 303), (false, 304), (false, 305)]
  | 5 => [(true, 400), (false, 401), (false, 402), (false, 403)]
  | 6 => [(false, 500), (true, 501), (false, 502), (false, 503)]
  | 7 => [(true, 600), (false, 601), (false, 602)]
  | 8 => [(false, 700), (false, 701), (false, 702), (false, 703), (true, 704), (false, 705), (false, 706)]
  | 9 => [(true, 800), (false, 801), (false, 802), (false, 803)]
  | 10 => [(false, 900), (false, 901), (true, 902), (false, 903), (false, 904)]
  | 11 => [(false, 1000), (false, 1001), (true, 1002), (false, 1003), (false, 1004), (false, 1005), (false, 1006)]
  | 12 => [(true, 1100), (true, 1101), (true, 1102), (true, 1103), (true, 1104), (true, 1105), (true, 1106), (true, 1107), (true, 1108), (true, 1109), (true, 1110), (true, 1111), (true, 1112), (true, 1113), (false, 1114), (false, 1115), (false, 1116), (false, 1117), (false, 1118)]
  | 13 => [(false, 1200), (false, 1201), (false, 1202), (false, 1203), (true, 1204), (true, 1205), (true, 1206), (true, 1207), (true, 1208), (true, 1209), (true, 1210), (true, 1211), (true, 1212), (true, 1213), (true, 1214), (false, 1215), (true, 1216), (true, 1217), (true, 1218), (true, 1219), (true, 1220), (true, 1221), (false, 1222), (true, 1223), (true, 1224), (true, 1225), (true, 1226), (false, 1227), (true, 1228), (true, 1229), (true, 1230), (true, 1231), (true, 1232), (true, 1233), (true, 1234), (true, 1235), (true, 1236), (true, 1237), (true, 1238), (false, 1239), (true, 1240), (true, 1241), (true, 1242), (true, 1243), (true, 1244), (false, 1245), (true, 1246), (true, 1247), (true, 1248), (true, 1249), (true, 1250), (true, 1251), (true, 1252), (true, 1253), (true, 1254), (true, 1255), (true, 1256), (true, 1257), (true, 1258), (true, 1259), (true, 1260), (true, 1261), (true, 1262), (true, 1263), (true, 1264)]
  | 30 => [(false, 1300), (true, 1301), (false, 1302)]
  | _ => []
def kT (ci : Nat) : List Nat := match ci with
  | 0 => [2, 2, 2, 2, 2, 2, 20, 0]
  | 1 => [0, 20]
  | 2 => [8, 5, 0, 6, 0, 11]
  | 3 => [0, 0, 0, 0, 0, 0]
  | 4 => [4, 0, 0, 0]
  | 5 => [0, 4, 0, 0]
  | 6 => [4, 0, 0]
  | 7 => [0, 0, 0, 0, 30, 0, 0]
  | 8 => [30, 0, 0, 0]
  | 9 => [0, 0, 4, 0, 0]
  | 10 => [0, 0, 3, 0, 0, 0, 0]
  | 11 => [24, 25, 26, 30, 30, 30, 30, 30, 30, 1, 2, 2, 2, 2, 0, 0, 0, 0, 0]
  | 12 => [0, 0, 0, 0, 21, 21, 21, 21, 21, 21, 21, 21, 21, 21, 22, 0, 21, 21, 22, 21, 21, 21, 0, 21, 21, 22, 21, 0, 21, 22, 21, 21, 22, 21, 21, 21, 21, 21, 21, 0, 21, 21, 21, 21, 21, 0, 21, 21, 21, 21, 21, 21, 21, 21, 22, 21, 21, 21, 21, 21, 21, 21, 21, 21, 21]
  | 13 => [0, 50, 0]
  | _ => []
/-- the kind that a reference field names -/
def fTgt (f : Nat) : Nat := (kT (f / 100)).getD (f % 100) 0
def kElem (κ : Nat) : Nat := match κ with
  | 24 => 10
  | 25 => 4
  | 26 => 9
  | _ => 0
/-- the machine's names behind the store: classes and slots, array classes, the empty list's array, the first new address, the class object of Object[] -/
abbrev GX : Type := va_G × (Nat → ClassId) × Nat × Nat × Nat
def GA (G : GX) : Nat → Prop := fun q => G.2.2.2.1 ≤ q
def gTys (cA : Nat → ClassId) : List (ClassId × FieldType) := [(cA 0, .int), (cA 1, .boolean), (cA 2, .long), (cA 3, .object RX9), (cA 4, .object RX3), (cA 5, .object RX8), (cA 6, .object "java/lang/Object")]
def fV (σ : St) (a : Nat) (q : Bool × Nat) : Value := if q.1 = true then va_rf (sR σ q.2 a) else .int (sI σ q.2 a)
/-- the kinds of objects; a kind's place among the classes -/
def isO (κ : Nat) : Bool := decide (1 ≤ κ ∧ κ ≤ 13) || decide (κ = 30)
def kCi (κ : Nat) : Nat := if κ = 30 then 13 else κ - 1
/-- the arrays of references: their class's place among the array classes -/
def isQ (κ : Nat) : Bool := decide (24 ≤ κ ∧ κ ≤ 26) || decide (κ = 50)
def kCa (κ : Nat) : Nat := if κ = 50 then 6 else κ - 21
/-- what the heap has at an address -/
def cE (cA : Nat → ClassId) (σ : St) (a : Nat) : Option va_E :=
  if sK σ a = 0 then none
  else if isO (sK σ a) = true then some (.inr (kCi (sK σ a), (kF (sK σ a)).map (fV σ a)))
  else if sK σ a ≤ 21 then some (.inl (cA 0, (sL σ a, .inl (sA σ a))))
  else if sK σ a = 22 then some (.inl (cA 1, (sL σ a, .inl (sA σ a))))
  else if sK σ a = 23 then some (.inl (cA 2, (sL σ a, .inr (.inl (fun j => (sA σ a j).toInt64)))))
  else some (.inl (cA (kCa (sK σ a)), (sL σ a, .inr (.inr (.inr (.inr (sQ σ a)))))))
theorem fV_eq {σ τ : St} {a : Nat} (h : cEq σ τ a) : fV τ a = fV σ a := by
  funext q
  unfold fV
  rw [h.1, h.2.1]
theorem cE_eq {cA : Nat → ClassId} {σ τ : St} {a : Nat} (hk : sK τ a = sK σ a) (h : cEq σ τ a) : cE cA τ a = cE cA σ a := by
  obtain ⟨e1, e2, e3, e4, e5, e7⟩ := id h
  unfold cE
  rw [hk, fV_eq h, e3, e4, e5]
theorem cE_some {cA : Nat → ClassId} {σ : St} {a : Nat} (h : sK σ a ≠ 0) : ∃ e, cE cA σ a = some e := by
  unfold cE
  rw [if_neg h]
  repeat (split; exact ⟨_, rfl⟩)
  exact ⟨_, rfl⟩
theorem cE_k {cA : Nat → ClassId} {σ : St} {a : Nat} {e : va_E} (h : cE cA σ a = some e) : sK σ a ≠ 0 := fun q => by
  unfold cE at h
  rw [if_pos q] at h
  cases h
theorem cE_o {cA : Nat → ClassId} {σ : St} {a κ ci : Nat} (hk : sK σ a = κ) (h : isO κ = true ∧ kCi κ = ci) : cE cA σ a = some (.inr (ci, (kF κ).map (fV σ a))) := by
  unfold cE
  rw [hk, if_neg (by rintro rfl; exact absurd h.1 (by decide)), if_pos h.1, h.2]
theorem isO_ne {κ : Nat} (h : 14 ≤ κ ∧ κ ≠ 30) : ¬ isO κ = true := by
  unfold isO
  simp
  omega
theorem cE_a {cA : Nat → ClassId} {σ : St} {a κ : Nat} (hk : sK σ a = κ) (h : κ = 20 ∨ κ = 21) : cE cA σ a = some (.inl (cA 0, (sL σ a, .inl (sA σ a)))) := by
  unfold cE
  rw [hk, if_neg (by omega), if_neg (isO_ne (by omega)), if_pos (by omega)]
theorem cE_z {cA : Nat → ClassId} {σ : St} {a : Nat} (hk : sK σ a = 22) : cE cA σ a = some (.inl (cA 1, (sL σ a, .inl (sA σ a)))) := by
  unfold cE
  rw [hk, if_neg (by omega), if_neg (isO_ne (by omega)), if_neg (by omega), if_pos rfl]
theorem cE_j {cA : Nat → ClassId} {σ : St} {a : Nat} (hk : sK σ a = 23) : cE cA σ a = some (.inl (cA 2, (sL σ a, .inr (.inl (fun j => (sA σ a j).toInt64))))) := by
  unfold cE
  rw [hk, if_neg (by omega), if_neg (isO_ne (by omega)), if_neg (by omega), if_neg (by omega), if_pos rfl]
theorem cE_q {cA : Nat → ClassId} {σ : St} {a κ : Nat} (hk : sK σ a = κ) (h : isQ κ = true) : cE cA σ a = some (.inl (cA (kCa κ), (sL σ a, .inr (.inr (.inr (.inr (sQ σ a))))))) := by
  unfold isQ at h
  simp at h
  unfold cE
  rw [hk, if_neg (by omega), if_neg (isO_ne (by omega)), if_neg (by omega), if_neg (by omega), if_neg (by omega)]
/-- the kinds of what lists hold -/
def isE (κ : Nat) : Bool := [3, 5, 6, 7, 8, 11].contains κ
def okE (κ κ' : Nat) : Prop := if kElem κ = 0 then isE κ' = true else κ' = kElem κ
theorem okE_ne {κ κ' : Nat} (h : okE κ κ') : κ' ≠ 0 := fun q => by
  subst q
  unfold okE at h
  split at h
  · exact absurd h (by decide)
  · next g => exact g h.symm
/-- the store is typed; 50 is the kind of Object[], whose elements are of any kind; the mark 1 is that of the empty list's array, the mark 2 that of its class object -/
def WT (G : GX) (σ : St) : Prop := (∀ a, sK σ a ≠ 0 → GA G a ∨ a = G.2.2.1) ∧ (∀ f a b, sR σ f a = some b → sK σ b = fTgt f ∧ fTgt f ≠ 0) ∧ (∀ a j b, sQ σ a j = some b → okE (sK σ a) (sK σ b)) ∧ (∀ a, sC σ a % 2 = 1 ↔ a = G.2.2.1) ∧ (∀ a, 2 ≤ sC σ a ↔ a = G.2.2.2.2) ∧ sL σ G.2.2.1 = 0 ∧ sK σ G.2.2.1 = 50
/-- of the empty list's array no more is known than that it is an empty array of its class -/
def dOk (cA : Nat → ClassId) (a : Nat) (H : Heap) : Prop := ∃ ce : Cell, H[a]? = some ce ∧ ce.cls = cA 6 ∧ ce.slots.size.toInt32 = 0 ∧ ce.vm ≠ .unknown ∧ ce.vm.isStatics = false
def gAt (G : GX) (a : Nat) (e : va_E) (H : Heap) : Prop := if a = G.2.2.1 then dOk G.2.1 a H else va_at G.1 gCl (a, e) H
theorem gAt.lt {G : GX} {a : Nat} {e : va_E} {H : Heap} (h : gAt G a e H) : a < H.size := by
  unfold gAt at h
  split at h
  · obtain ⟨ce, h1, -⟩ := h
    exact (Array.getElem?_eq_some_iff.mp h1).1
  · exact va_at.lt h
theorem gAt.kept {G : GX} {a : Nat} {e : va_E} {H H1 : Heap} (h : gAt G a e H) (hq : H1[a]? = H[a]?) : gAt G a e H1 := by
  unfold gAt at h ⊢
  split at h
  · next g =>
    rw [if_pos g]
    obtain ⟨ce, h1, h2⟩ := h
    exact ⟨ce, by rw [hq]; exact h1, h2⟩
  · next g =>
    rw [if_neg g]
    exact va_at.kept h hq
theorem gAt.ne {G : GX} {a : Nat} {e : va_E} {H : Heap} (h : gAt G a e H) (hd : a ≠ G.2.2.1) : va_at G.1 gCl (a, e) H := by
  unfold gAt at h
  rw [if_neg hd] at h
  exact h
theorem gAt.mk {G : GX} {a : Nat} {e : va_E} {H : Heap} (hd : a ≠ G.2.2.1) (h : va_at G.1 gCl (a, e) H) : gAt G a e H := by
  unfold gAt
  rw [if_neg hd]
  exact h
def HP (G : GX) (σ : St) (H : Heap) : Prop := (∀ a e, cE G.2.1 σ a = some e → gAt G a e H) ∧ WT G σ
theorem HP.at {G : GX} {σ : St} {H : Heap} (h : HP G σ H) {a : Nat} {e : va_E} (he : cE G.2.1 σ a = some e) (hk : sK σ a ≠ 50 ∨ 0 < sL σ a) : va_at G.1 gCl (a, e) H := (h.1 a e he).ne fun q => by
  rcases hk with g | g
  · exact g (by rw [q]; exact h.2.2.2.2.2.2.2)
  · rw [q, h.2.2.2.2.2.2.1] at g
    omega
theorem vin_pos {i : Int32} {n : Nat} (h : vp_in i n) : 0 < n := Nat.pos_of_ne_zero fun q => h (Or.inr (by rw [q]; exact Nat.zero_le _))
theorem isO_50 {κ : Nat} (h : isO κ = true) : κ ≠ 50 := by rintro rfl; exact absurd h (by decide)
def tvOk (σ : St) (tv : List (Option Nat × Nat)) : Prop := ∀ q ∈ tv, ∀ b, q.1 = some b → sK σ b = q.2 ∧ q.2 ≠ 0
theorem tvOk.ext {σ τ : St} {tv : List (Option Nat × Nat)} (h : tvOk σ tv) (he : ext σ τ) : tvOk τ tv := fun q hq b hb => by
  obtain ⟨h1, h2⟩ := h q hq b hb
  exact ⟨by rw [he b (by rw [h1]; exact h2)]; exact h1, h2⟩
theorem tvOk.at {σ : St} {tv : List (Option Nat × Nat)} (h : tvOk σ tv) (j : Nat) {a κ : Nat} (hj : tv[j]? = some (some a, κ)) : sK σ a = κ ∧ κ ≠ 0 := h _ (List.mem_of_getElem? hj) a rfl
theorem tvOk.cons {σ : St} {tv : List (Option Nat × Nat)} {o : Option Nat} {κ : Nat} (h : tvOk σ tv) (ho : ∀ b, o = some b → sK σ b = κ ∧ κ ≠ 0) : tvOk σ ((o, κ) :: tv) := fun q hq b hb => by
  rcases List.mem_cons.mp hq with rfl | hq
  · exact ho b hb
  · exact h q hq b hb
def gNB : List Cond := [.methodLinkNest RX11 51 yX0_init RX11, .methodLinkNest RX11 74 yX9_init RX11, .methodLinkNest RX11 78 yX8_init RX11, .castable "java/lang/IndexOutOfBoundsException" "java/lang/IndexOutOfBoundsException", .castable "java/lang/IllegalArgumentException" "java/lang/IllegalArgumentException", .castable "java/lang/IllegalStateException" "java/lang/IllegalStateException", .castable "[I" "java/lang/Cloneable", .castable RX9 "java/lang/Object", .castable RX3 "java/lang/Object", .castable RX8 "java/lang/Object", .castable RX5 "java/lang/Object", .castable RX6 "java/lang/Object", .castable RX2 "java/lang/Object", .castable RX10 "java/lang/Object", .castable RX7 "java/lang/Object", .castable RX4 "java/lang/Object", .castable "[I" "java/lang/Object", .castable "[Ljava/lang/Object;" "java/lang/Object", .declares ⟨"java/lang/RuntimeException", "<init>", "()V"⟩, .declares ⟨"java/lang/RuntimeException", "<init>", "(Ljava/lang/String;)V"⟩, .declares ⟨"java/lang/Exception", "<init>", "()V"⟩, .declares ⟨"java/lang/Exception", "<init>", "(Ljava/lang/String;)V"⟩, .declares ⟨"java/lang/Throwable", "<init>", "()V"⟩, .declares ⟨"java/lang/Throwable", "<init>", "(Ljava/lang/String;)V"⟩, .declares ⟨"java/lang/Object", "getClass", "()Ljava/lang/Class;"⟩]
def gAO : List String := [RX9, RX3, RX8, "java/lang/Object"]
def gNC : List (String × String) := [("java/lang/IllegalArgumentException", "java/lang/IndexOutOfBoundsException"), ("java/lang/IllegalStateException", "java/lang/IndexOutOfBoundsException"), ("java/lang/IllegalStateException", "java/lang/IllegalArgumentException")]
/-- what is known of the machine at a method's start -/
def GC (G : GX) (s : State) : Prop := va_K G.1 gCl (gTys G.2.1) s ∧ (∀ w ∈ gNB, va_Nw w s) ∧ ((∀ C ∈ gAO, va_AO C s) ∧ ∀ q ∈ gNC, va_Nc q.1 q.2 s) ∧ vx_Zq Bundle.tN "UNASSIGNED_STACK" Bundle.steD (GA G) s s.heap ∧ vx_Zq Bundle.tN "SUPPRESSED_SENTINEL" Bundle.listD (GA G) s s.heap ∧ va_Z "java/util/ArrayList" "DEFAULTCAPACITY_EMPTY_ELEMENTDATA" "[Ljava/lang/Object;" (.ref G.2.2.1) (GA G) s s.heap ∧ va_Mi "[Ljava/lang/Object;" G.2.2.2.2 s ∧ G.2.2.1 < G.2.2.2.1 ∧ G.2.2.2.1 ≤ s.heap.size
theorem gNB_warm {s U : State} (hW : s.WarmedH U.vm) (h : ∀ w ∈ gNB, va_Nw w s) : ∀ w ∈ gNB, va_Nw w U := by
  intro w hw
  have h1 := h w hw
  simp only [gNB, List.mem_cons, List.not_mem_nil, or_false] at hw
  rcases hw with rfl | rfl | rfl | rfl | rfl | rfl | rfl | rfl | rfl | rfl | rfl | rfl | rfl | rfl | rfl | rfl | rfl | rfl | rfl | rfl | rfl | rfl | rfl | rfl | rfl <;> first | exact va_Nw.warmM hW h1 | exact va_Nw.warmC hW h1 | exact va_Nw.warmD hW h1
theorem gNB_tab : ∀ w ∈ gNB, w.onTables = true := by
  intro w hw
  simp only [gNB, List.mem_cons, List.not_mem_nil, or_false] at hw
  rcases hw with rfl | rfl | rfl | rfl | rfl | rfl | rfl | rfl | rfl | rfl | rfl | rfl | rfl | rfl | rfl | rfl | rfl | rfl | rfl | rfl | rfl | rfl | rfl | rfl | rfl <;> rfl
theorem gNB_same {s U : State} (hW : s.vm = U.vm) (h : ∀ w ∈ gNB, va_Nw w s) : ∀ w ∈ gNB, va_Nw w U := by
  intro w hw
  have h1 := h w hw
  simp only [gNB, List.mem_cons, List.not_mem_nil, or_false] at hw
  rcases hw with rfl | rfl | rfl | rfl | rfl | rfl | rfl | rfl | rfl | rfl | rfl | rfl | rfl | rfl | rfl | rfl | rfl | rfl | rfl | rfl | rfl | rfl | rfl | rfl | rfl <;> exact va_Nw.same rfl hW h1
theorem GC_call {G : GX} {s U : State} {H : Heap} {locs : List Loc} (h : GC G s) (hS : va_S (GA G) s.heap H locs) (hU : U.heap = H) (hW : s.WarmedH U.vm) : GC G U := by
  obtain ⟨h1, h2, h3, h4, h5, h6, h7, h8, h9⟩ := h
  have hk : ∀ a : Nat, a < s.heap.size → ¬ GA G a → U.heap[a]? = s.heap[a]? := fun a q1 q2 => by rw [hU]; exact hS.2.1 a q1 q2
  refine ⟨va_K.moved hW.alike h1, gNB_warm hW h2, ⟨fun C hC => va_AO.moved hW.alike (h3.1 C hC), fun q hq => va_Nc.moved hW.alike (h3.2 q hq)⟩, (h4.moved hW.alike).kept hk, (h5.moved hW.alike).kept hk, (h6.moved hW.alike).kept hk, h7.moved hW.alike, h8, ?_⟩
  rw [hU]
  exact Nat.le_trans h9 hS.1
theorem GC_frame {G : GX} {U : State} {g : JFrame} {mk : MethodId} {a : Array Value} (h : GC G U) : GC G (U.calling g mk a) := by
  obtain ⟨h1, h2, h3, h4, h5, h6, h7, h8, h9⟩ := h
  exact ⟨va_K.moved (u := U) (U := U.calling g mk a) (Vm.Alike.refl U.vm) h1, gNB_same (s := U) (U := U.calling g mk a) rfl h2, ⟨fun C hC => va_AO.moved (u := U) (U := U.calling g mk a) (Vm.Alike.refl U.vm) (h3.1 C hC), fun q hq => va_Nc.moved (u := U) (U := U.calling g mk a) (Vm.Alike.refl U.vm) (h3.2 q hq)⟩, vx_Zq.moved (u := U) (U := U.calling g mk a) (Vm.Alike.refl U.vm) h4, vx_Zq.moved (u := U) (U := U.calling g mk a) (Vm.Alike.refl U.vm) h5, va_Z.moved (u := U) (U := U.calling g mk a) (Vm.Alike.refl U.vm) h6, va_Mi.moved (u := U) (U := U.calling g mk a) (Vm.Alike.refl U.vm) h7, h8, h9⟩
/-- what holds at each step: the heap holds the store; what was written; the kinds of the known references -/
def GS (G : GX) (s : State) (d : Nat) (σ0 σ : St) (tv : List (Option Nat × Nat)) (H : Heap) (locs : List Loc) : Prop := HP G σ H ∧ va_S (GA G) s.heap H locs ∧ ext σ0 σ ∧ fr d σ0 σ ∧ tvOk σ tv
def rmD (dep mc ms : Nat) : Room := { frames := dep + 12, cells := mc, slots := ms, locals := 40 * dep + 500 }
def VC (p : Program) (l : Launch) (R : Room) (s : State) (m : MethodId) (args : Array Value) (meth : Method) (c : Code) (G : GX) (dep mc ms nL : Nat) (own : String) (cc : ByteArray) : Prop := p.tables.exec = Jvm.exec ∧ c.code = cc ∧ c.maxLocals = nL ∧ s.vm.findClass own = some m.cls ∧ (∀ w ∈ gTB, w.before args s = true) ∧ GC G s ∧ meth.locks = false ∧ l.stackTraces = false ∧ dep + 12 ≤ R.frames ∧ 40 * dep + 500 ≤ R.locals ∧ R.cells = mc ∧ R.slots = ms
def V (p : Program) (l : Launch) (e : Env) (R : Room) (s : State) (m : MethodId) (args : Array Value) (below : List Frame) (meth : Method) (c : Code) (Q : State → Prop) (G : GX) (d : Nat) (σ0 : St) (mc ms nL : Nat) (σ : St) (k n : Nat) (tv : List (Option Nat × Nat)) (pc : Nat) (lv : List (Nat × Value)) (st : List Value) : Prop :=
  ∀ (H : Heap) (locs : List Loc) (ls : Array Slot) (cells slots : Nat), cells + k = mc → slots + n = ms → GS G s d σ0 σ tv H locs → lv_has ls nL lv → W p l e R s m args below meth c H locs cells slots Q (F0 m pc ls st)
theorem vP1 {D : va_G} {cl : List vw_C} {q : Nat × va_E} {H : Heap} (h : va_at D cl q H) : va_P D cl [q] H := fun k q' hk => by
  have hz : k < 1 := (List.getElem?_eq_some_iff.mp hk).1
  rw [show k = 0 by omega] at hk
  cases hk
  exact h
theorem fV_at {σ : St} {a κ k fid : Nat} (hf : (kF κ)[k]? = some (false, fid)) : ((kF κ).map (fV σ a))[k]? = some (.int (sI σ fid a)) := by rw [List.getElem?_map, hf]; rfl
theorem fV_atR {σ : St} {a κ k fid : Nat} (hf : (kF κ)[k]? = some (true, fid)) : ((kF κ).map (fV σ a))[k]? = some (va_rf (sR σ fid a)) := by rw [List.getElem?_map, hf]; rfl
/-- THE STORE AS A WORLD of the kit: all its cells but the empty list's array -/
def wsN (cA : Nat → ClassId) (d0 : Nat) (σ : St) : Nat → va_W
  | 0 => []
  | n + 1 => wsN cA d0 σ n ++ (if n = d0 then [] else match cE cA σ n with | none => [] | some e => [(n, e)])
theorem wsN_at {cA : Nat → ClassId} {d0 : Nat} {σ : St} : ∀ (n i : Nat) (q : Nat × va_E), (wsN cA d0 σ n)[i]? = some q → q.1 < n ∧ q.1 ≠ d0 ∧ cE cA σ q.1 = some q.2
  | 0, i, q, h => by simp [wsN] at h
  | n + 1, i, q, h => by
    unfold wsN at h
    by_cases hl : i < (wsN cA d0 σ n).length
    · rw [List.getElem?_append_left hl] at h
      have h1 := wsN_at n i q h
      exact ⟨by omega, h1.2⟩
    · rw [List.getElem?_append_right (by omega)] at h
      by_cases hn : n = d0
      · rw [if_pos hn] at h; simp at h
      · rw [if_neg hn] at h
        cases hc : cE cA σ n with
        | none => rw [hc] at h; simp at h
        | some e =>
          rw [hc] at h
          have hz : i - (wsN cA d0 σ n).length < 1 := (List.getElem?_eq_some_iff.mp h).1
          rw [show i - (wsN cA d0 σ n).length = 0 by omega] at h
          simp only [List.getElem?_cons_zero] at h
          cases h
          exact ⟨by omega, hn, hc⟩
theorem wsN_in {cA : Nat → ClassId} {d0 : Nat} {σ : St} {a : Nat} {e : va_E} (h : cE cA σ a = some e) (hd : a ≠ d0) : ∀ n : Nat, a < n → ∃ i : Nat, (wsN cA d0 σ n)[i]? = some (a, e)
  | 0, hl => absurd hl (by omega)
  | n + 1, hl => by
    unfold wsN
    by_cases hn : a = n
    · subst hn
      rw [if_neg hd, h]
      exact ⟨(wsN cA d0 σ a).length, by rw [List.getElem?_append_right (Nat.le_refl _), Nat.sub_self]; rfl⟩
    · obtain ⟨i, hi⟩ := wsN_in h hd n (by omega)
      exact ⟨i, by rw [List.getElem?_append_left (List.getElem?_eq_some_iff.mp hi).1]; exact hi⟩
theorem wsN_inj {cA : Nat → ClassId} {d0 : Nat} {σ : St} : ∀ (n i j : Nat) (p q : Nat × va_E), (wsN cA d0 σ n)[i]? = some p → (wsN cA d0 σ n)[j]? = some q → p.1 = q.1 → i = j
  | 0, i, j, p, q, h, _, _ => by simp [wsN] at h
  | n + 1, i, j, p, q, hp, hq, he => by
    have len1 : ∀ k x, (if n = d0 then ([] : va_W) else match cE cA σ n with | none => [] | some e => [(n, e)])[k]? = some x → k = 0 ∧ x.1 = n := by
      intro k x hx
      by_cases hn : n = d0
      · rw [if_pos hn] at hx; simp at hx
      · rw [if_neg hn] at hx
        cases hc : cE cA σ n with
        | none => rw [hc] at hx; simp at hx
        | some e =>
          rw [hc] at hx
          have hz : k < 1 := (List.getElem?_eq_some_iff.mp hx).1
          have hk : k = 0 := by omega
          subst hk
          simp only [List.getElem?_cons_zero] at hx
          cases hx
          exact ⟨rfl, rfl⟩
    unfold wsN at hp hq
    by_cases h1 : i < (wsN cA d0 σ n).length
    · rw [List.getElem?_append_left h1] at hp
      by_cases h2 : j < (wsN cA d0 σ n).length
      · rw [List.getElem?_append_left h2] at hq
        exact wsN_inj n i j p q hp hq he
      · rw [List.getElem?_append_right (by omega)] at hq
        have := wsN_at n i p hp
        have := len1 _ _ hq
        omega
    · rw [List.getElem?_append_right (by omega)] at hp
      have a1 := len1 _ _ hp
      by_cases h2 : j < (wsN cA d0 σ n).length
      · rw [List.getElem?_append_left h2] at hq
        have := wsN_at n j q hq
        omega
      · rw [List.getElem?_append_right (by omega)] at hq
        have := len1 _ _ hq
        omega
def wsH (G : GX) (σ : St) (H : Heap) : va_W := wsN G.2.1 G.2.2.1 σ H.size
theorem wsH_P {G : GX} {σ : St} {H : Heap} (h : HP G σ H) : va_P G.1 gCl (wsH G σ H) H := fun k q hk => (h.1 q.1 q.2 (wsN_at _ _ _ hk).2.2).ne (wsN_at _ _ _ hk).2.1
theorem wsH_D {G : GX} {σ : St} {H : Heap} (h : HP G σ H) : va_D (GA G) (wsH G σ H) := ⟨fun i j p q hp hq he => wsN_inj _ i j p q hp hq he, fun k q hk => by
  obtain ⟨h1, h2, h3⟩ := wsN_at _ _ _ hk
  rcases h.2.1 q.1 (cE_k h3) with g | g
  · exact g
  · exact absurd g h2⟩
theorem wsH_in {G : GX} {σ : St} {H : Heap} (h : HP G σ H) {a : Nat} {e : va_E} (he : cE G.2.1 σ a = some e) (hd : a ≠ G.2.2.1) : ∃ i : Nat, (wsH G σ H)[i]? = some (a, e) := wsN_in he hd _ (h.1 a e he).lt
/-- .. and back: one cell was written -/
theorem HP_set {G : GX} {σ τ : St} {s : State} {H H1 : Heap} {locs locs1 : List Loc} {a i : Nat} {e0 e1 : va_E} (h : HP G σ H) (hS : va_S (GA G) s.heap H locs) (hS1 : va_S (GA G) s.heap H1 locs1) (hlt : G.2.2.1 < G.2.2.2.1) (hsz : G.2.2.2.1 ≤ s.heap.size) (hW : WT G τ) (hK : sK τ = sK σ) (hc : ∀ b, b ≠ a → cEq σ τ b) (hi : (wsH G σ H)[i]? = some (a, e0)) (he : cE G.2.1 τ a = some e1) (hP : va_P G.1 gCl ((wsH G σ H).set i (a, e1)) H1) : HP G τ H1 := by
  refine ⟨fun b e hb => ?_, hW⟩
  have hl : i < (wsH G σ H).length := (List.getElem?_eq_some_iff.mp hi).1
  by_cases hba : b = a
  · subst hba
    rw [he] at hb
    cases hb
    exact gAt.mk (wsN_at _ _ _ hi).2.1 (hP i _ (by rw [List.getElem?_set, if_pos rfl, if_pos hl]))
  · have hb2 : cE G.2.1 σ b = some e := by rw [← hb, cE_eq (by rw [hK]) (hc b hba)]
    by_cases hd : b = G.2.2.1
    · have hna : ¬ GA G b := by unfold GA; omega
      refine (h.1 b e hb2).kept ?_
      rw [hS1.2.1 b (by omega) hna, hS.2.1 b (by omega) hna]
    · obtain ⟨j, hj⟩ := wsH_in h hb2 hd
      have hij : i ≠ j := fun q => by
        rw [← q, hi] at hj
        cases hj
        exact hba rfl
      exact gAt.mk hd (hP j _ (by rw [List.getElem?_set, if_neg hij]; exact hj))
/-- .. a new cell came -/
theorem HP_new {G : GX} {σ τ : St} {s : State} {H H1 : Heap} {locs : List Loc} {q κ : Nat} {e1 : va_E} (h : HP G σ H) (hS : va_S (GA G) s.heap H locs) (hS1 : va_S (GA G) s.heap H1 locs) (hlt : G.2.2.1 < G.2.2.2.1) (hsz : G.2.2.2.1 ≤ s.heap.size) (hq9 : q ≠ G.2.2.1) (hW : WT G τ) (hK : sK τ = u1 q κ (sK σ)) (hc : ∀ b, b ≠ q → cEq σ τ b) (he : cE G.2.1 τ q = some e1) (hP : va_P G.1 gCl (wsH G σ H ++ [(q, e1)]) H1) : HP G τ H1 := by
  refine ⟨fun b e hb => ?_, hW⟩
  by_cases hba : b = q
  · subst hba
    rw [he] at hb
    cases hb
    refine gAt.mk hq9 (hP (wsH G σ H).length _ ?_)
    exact (by rw [List.getElem?_append_right (Nat.le_refl _), Nat.sub_self]; rfl)
  · have hb2 : cE G.2.1 σ b = some e := by rw [← hb, cE_eq (by rw [hK, u1_at, if_neg hba]) (hc b hba)]
    by_cases hd : b = G.2.2.1
    · have hna : ¬ GA G b := by unfold GA; omega
      refine (h.1 b e hb2).kept ?_
      rw [hS1.2.1 b (by omega) hna, hS.2.1 b (by omega) hna]
    · obtain ⟨j, hj⟩ := wsH_in h hb2 hd
      refine gAt.mk hd (hP j _ ?_)
      exact (by rw [List.getElem?_append_left (List.getElem?_eq_some_iff.mp hj).1]; exact hj)
theorem HP_fresh {G : GX} {σ : St} {H : Heap} {q : Nat} {e1 : va_E} (h : HP G σ H) (hlt : G.2.2.1 < G.2.2.2.1) (hD : va_D (GA G) (wsH G σ H ++ [(q, e1)])) : sK σ q = 0 ∧ GA G q := by
  have hn : (wsH G σ H ++ [(q, e1)])[(wsH G σ H).length]? = some (q, e1) := by rw [List.getElem?_append_right (Nat.le_refl _), Nat.sub_self]; rfl
  have hA := hD.2 _ _ hn
  refine ⟨Classical.byContradiction fun hk => ?_, hA⟩
  obtain ⟨e, he⟩ := cE_some (cA := G.2.1) hk
  by_cases hd : q = G.2.2.1
  · unfold GA at hA
    simp only at hA
    omega
  · obtain ⟨j, hj⟩ := wsH_in h he hd
    have hl := (List.getElem?_eq_some_iff.mp hj).1
    have h2 := hD.1 j _ (q, e) (q, e1) (by rw [List.getElem?_append_left hl]; exact hj) hn rfl
    omega
section
variable {p : Program} {l : Launch} {e : Env} {R : Room} {s : State} {m : MethodId} {args : Array Value} {below : List Frame} {meth : Method} {c : Code} {Q : State → Prop} {G : GX} {d : Nat} {σ0 σ : St} {dep mc ms nL k n pc : Nat} {tv : List (Option Nat × Nat)} {lv : List (Nat × Value)} {rest : List Value} {own : String} {cc : ByteArray}
theorem v_iadd (X : VC p l R s m args meth c G dep mc ms nL own cc) {x y : Int32} (hdg : decode cc pc = .ok (.iadd, 1)) 
    (kk : V p l e R s m args below meth c Q G d σ0 mc ms nL σ k n tv (pc + 1) lv (.int (x + y) :: rest)) : V p l e R s m args below meth c Q G d σ0 mc ms nL σ k n tv pc lv (.int y :: .int x :: rest) := fun H locs ls cells slots h1 h2 hG hl => lv_iadd X.1 X.2.1 hdg (kk H locs ls cells slots h1 h2 hG hl)
theorem v_isub (X : VC p l R s m args meth c G dep mc ms nL own cc) {x y : Int32} (hdg : decode cc pc = .ok (.isub, 1)) 
    (kk : V p l e R s m args below meth c Q G d σ0 mc ms nL σ k n tv (pc + 1) lv (.int (x - y) :: rest)) : V p l e R s m args below meth c Q G d σ0 mc ms nL σ k n tv pc lv (.int y :: .int x :: rest) := fun H locs ls cells slots h1 h2 hG hl => lv_isub X.1 X.2.1 hdg (kk H locs ls cells slots h1 h2 hG hl)
theorem v_imul (X : VC p l R s m args meth c G dep mc ms nL own cc) {x y : Int32} (hdg : decode cc pc = .ok (.imul, 1)) 
    (kk : V p l e R s m args below meth c Q G d σ0 mc ms nL σ k n tv (pc + 1) lv (.int (x * y) :: rest)) : V p l e R s m args below meth c Q G d σ0 mc ms nL σ k n tv pc lv (.int y :: .int x :: rest) := fun H locs ls cells slots h1 h2 hG hl => lv_imul X.1 X.2.1 hdg (kk H locs ls cells slots h1 h2 hG hl)
theorem v_iand (X : VC p l R s m args meth c G dep mc ms nL own cc) {x y : Int32} (hdg : decode cc pc = .ok (.iand, 1)) 
    (kk : V p l e R s m args below meth c Q G d σ0 mc ms nL σ k n tv (pc + 1) lv (.int (x &&& y) :: rest)) : V p l e R s m args below meth c Q G d σ0 mc ms nL σ k n tv pc lv (.int y :: .int x :: rest) := fun H locs ls cells slots h1 h2 hG hl => lv_iand X.1 X.2.1 hdg (kk H locs ls cells slots h1 h2 hG hl)
theorem v_ior (X : VC p l R s m args meth c G dep mc ms nL own cc) {x y : Int32} (hdg : decode cc pc = .ok (.ior, 1)) 
    (kk : V p l e R s m args below meth c Q G d σ0 mc ms nL σ k n tv (pc + 1) lv (.int (x ||| y) :: rest)) : V p l e R s m args below meth c Q G d σ0 mc ms nL σ k n tv pc lv (.int y :: .int x :: rest) := fun H locs ls cells slots h1 h2 hG hl => lv_ior X.1 X.2.1 hdg (kk H locs ls cells slots h1 h2 hG hl)
theorem v_ixor (X : VC p l R s m args meth c G dep mc ms nL own cc) {x y : Int32} (hdg : decode cc pc = .ok (.ixor, 1)) 
    (kk : V p l e R s m args below meth c Q G d σ0 mc ms nL σ k n tv (pc + 1) lv (.int (x ^^^ y) :: rest)) : V p l e R s m args below meth c Q G d σ0 mc ms nL σ k n tv pc lv (.int y :: .int x :: rest) := fun H locs ls cells slots h1 h2 hG hl => lv_ixor X.1 X.2.1 hdg (kk H locs ls cells slots h1 h2 hG hl)
theorem v_ishl (X : VC p l R s m args meth c G dep mc ms nL own cc) {x y : Int32} (hdg : decode cc pc = .ok (.ishl, 1)) 
    (kk : V p l e R s m args below meth c Q G d σ0 mc ms nL σ k n tv (pc + 1) lv (.int (x <<< (y &&& 31)) :: rest)) : V p l e R s m args below meth c Q G d σ0 mc ms nL σ k n tv pc lv (.int y :: .int x :: rest) := fun H locs ls cells slots h1 h2 hG hl => lv_ishl X.1 X.2.1 hdg (kk H locs ls cells slots h1 h2 hG hl)
theorem v_ishr (X : VC p l R s m args meth c G dep mc ms nL own cc) {x y : Int32} (hdg : decode cc pc = .ok (.ishr, 1)) 
    (kk : V p l e R s m args below meth c Q G d σ0 mc ms nL σ k n tv (pc + 1) lv (.int (x >>> (y &&& 31)) :: rest)) : V p l e R s m args below meth c Q G d σ0 mc ms nL σ k n tv pc lv (.int y :: .int x :: rest) := fun H locs ls cells slots h1 h2 hG hl => lv_ishr X.1 X.2.1 hdg (kk H locs ls cells slots h1 h2 hG hl)
theorem v_idiv (X : VC p l R s m args meth c G dep mc ms nL own cc) {x y : Int32} (hdg : decode cc pc = .ok (.idiv, 1)) (hne : ¬ y = 0)
    (kk : V p l e R s m args below meth c Q G d σ0 mc ms nL σ k n tv (pc + 1) lv (.int (x / y) :: rest)) : V p l e R s m args below meth c Q G d σ0 mc ms nL σ k n tv pc lv (.int y :: .int x :: rest) := fun H locs ls cells slots h1 h2 hG hl => lv_idiv X.1 X.2.1 hdg hne (kk H locs ls cells slots h1 h2 hG hl)
theorem v_irem (X : VC p l R s m args meth c G dep mc ms nL own cc) {x y : Int32} (hdg : decode cc pc = .ok (.irem, 1)) (hne : ¬ y = 0)
    (kk : V p l e R s m args below meth c Q G d σ0 mc ms nL σ k n tv (pc + 1) lv (.int (x - x / y * y) :: rest)) : V p l e R s m args below meth c Q G d σ0 mc ms nL σ k n tv pc lv (.int y :: .int x :: rest) := fun H locs ls cells slots h1 h2 hG hl => lv_irem X.1 X.2.1 hdg hne (kk H locs ls cells slots h1 h2 hG hl)
theorem v_ineg (X : VC p l R s m args meth c G dep mc ms nL own cc) {x : Int32} (hdg : decode cc pc = .ok (.ineg, 1)) 
    (kk : V p l e R s m args below meth c Q G d σ0 mc ms nL σ k n tv (pc + 1) lv (.int (-x) :: rest)) : V p l e R s m args below meth c Q G d σ0 mc ms nL σ k n tv pc lv (.int x :: rest) := fun H locs ls cells slots h1 h2 hG hl => lv_ineg X.1 X.2.1 hdg (kk H locs ls cells slots h1 h2 hG hl)
theorem v_iconst (X : VC p l R s m args meth c G dep mc ms nL own cc) {q : Int} (v : Int32) (hdg : decode cc pc = .ok (.iconst q, 1)) (hv : Int32.ofInt q = v)
    (kk : V p l e R s m args below meth c Q G d σ0 mc ms nL σ k n tv (pc + 1) lv (.int v :: rest)) : V p l e R s m args below meth c Q G d σ0 mc ms nL σ k n tv pc lv rest := fun H locs ls cells slots h1 h2 hG hl => lv_iconst X.1 X.2.1 hdg hv (kk H locs ls cells slots h1 h2 hG hl)
theorem v_bipush (X : VC p l R s m args meth c G dep mc ms nL own cc) {q : Int} (v : Int32) (hdg : decode cc pc = .ok (.bipush q, 2)) (hv : (Int8.ofInt q).toInt32 = v)
    (kk : V p l e R s m args below meth c Q G d σ0 mc ms nL σ k n tv (pc + 2) lv (.int v :: rest)) : V p l e R s m args below meth c Q G d σ0 mc ms nL σ k n tv pc lv rest := fun H locs ls cells slots h1 h2 hG hl => lv_bipush X.1 X.2.1 hdg hv (kk H locs ls cells slots h1 h2 hG hl)
theorem v_sipush (X : VC p l R s m args meth c G dep mc ms nL own cc) {q : Int} (v : Int32) (hdg : decode cc pc = .ok (.sipush q, 3)) (hv : (Int16.ofInt q).toInt32 = v)
    (kk : V p l e R s m args below meth c Q G d σ0 mc ms nL σ k n tv (pc + 3) lv (.int v :: rest)) : V p l e R s m args below meth c Q G d σ0 mc ms nL σ k n tv pc lv rest := fun H locs ls cells slots h1 h2 hG hl => lv_sipush X.1 X.2.1 hdg hv (kk H locs ls cells slots h1 h2 hG hl)
theorem v_lconst (X : VC p l R s m args meth c G dep mc ms nL own cc) {q : Fin 2} (v : Int64) (hdg : decode cc pc = .ok (.lconst q, 1)) (hv : Int64.ofNat (q : Nat) = v)
    (kk : V p l e R s m args below meth c Q G d σ0 mc ms nL σ k n tv (pc + 1) lv (.long v :: rest)) : V p l e R s m args below meth c Q G d σ0 mc ms nL σ k n tv pc lv rest := fun H locs ls cells slots h1 h2 hG hl => lv_lconst X.1 X.2.1 hdg hv (kk H locs ls cells slots h1 h2 hG hl)
theorem v_i2l (X : VC p l R s m args meth c G dep mc ms nL own cc) {x : Int32} (hdg : decode cc pc = .ok (.i2l, 1)) 
    (kk : V p l e R s m args below meth c Q G d σ0 mc ms nL σ k n tv (pc + 1) lv (.long x.toInt64 :: rest)) : V p l e R s m args below meth c Q G d σ0 mc ms nL σ k n tv pc lv (.int x :: rest) := fun H locs ls cells slots h1 h2 hG hl => lv_i2l X.1 X.2.1 hdg rfl (kk H locs ls cells slots h1 h2 hG hl)
theorem v_null (X : VC p l R s m args meth c G dep mc ms nL own cc)  (hdg : decode cc pc = .ok (.aconst_null, 1)) 
    (kk : V p l e R s m args below meth c Q G d σ0 mc ms nL σ k n tv (pc + 1) lv (va_rf none :: rest)) : V p l e R s m args below meth c Q G d σ0 mc ms nL σ k n tv pc lv rest := fun H locs ls cells slots h1 h2 hG hl => lv_null X.1 X.2.1 hdg (kk H locs ls cells slots h1 h2 hG hl)
theorem v_dup (X : VC p l R s m args meth c G dep mc ms nL own cc) {a : Value} (hdg : decode cc pc = .ok (.dup, 1)) (ha : a.category = 1)
    (kk : V p l e R s m args below meth c Q G d σ0 mc ms nL σ k n tv (pc + 1) lv (a :: a :: rest)) : V p l e R s m args below meth c Q G d σ0 mc ms nL σ k n tv pc lv (a :: rest) := fun H locs ls cells slots h1 h2 hG hl => lv_dup X.1 X.2.1 hdg ha (kk H locs ls cells slots h1 h2 hG hl)
theorem v_pop (X : VC p l R s m args meth c G dep mc ms nL own cc) {a : Value} (hdg : decode cc pc = .ok (.pop, 1)) (ha : a.category = 1)
    (kk : V p l e R s m args below meth c Q G d σ0 mc ms nL σ k n tv (pc + 1) lv rest) : V p l e R s m args below meth c Q G d σ0 mc ms nL σ k n tv pc lv (a :: rest) := fun H locs ls cells slots h1 h2 hG hl => lv_pop X.1 X.2.1 hdg ha (kk H locs ls cells slots h1 h2 hG hl)
theorem v_dup2 (X : VC p l R s m args meth c G dep mc ms nL own cc) {a b : Value} (hdg : decode cc pc = .ok (.dup2, 1)) (ha : a.category = 1) (hb : b.category = 1)
    (kk : V p l e R s m args below meth c Q G d σ0 mc ms nL σ k n tv (pc + 1) lv (a :: b :: a :: b :: rest)) : V p l e R s m args below meth c Q G d σ0 mc ms nL σ k n tv pc lv (a :: b :: rest) := fun H locs ls cells slots h1 h2 hG hl => lv_dup2_11 X.1 X.2.1 hdg ha hb (kk H locs ls cells slots h1 h2 hG hl)
theorem v_dup_x1 (X : VC p l R s m args meth c G dep mc ms nL own cc) {a b : Value} (hdg : decode cc pc = .ok (.dup_x1, 1)) (ha : a.category = 1) (hb : b.category = 1)
    (kk : V p l e R s m args below meth c Q G d σ0 mc ms nL σ k n tv (pc + 1) lv (a :: b :: a :: rest)) : V p l e R s m args below meth c Q G d σ0 mc ms nL σ k n tv pc lv (a :: b :: rest) := fun H locs ls cells slots h1 h2 hG hl => lv_dup_x1 X.1 X.2.1 hdg ha hb (kk H locs ls cells slots h1 h2 hG hl)
theorem ct_i (x : Int32) : (Value.int x).category = 1 := rfl
theorem rf_cat (r : Option Nat) : (va_rf r).category = 1 := by cases r <;> rfl
theorem v_iload_n (X : VC p l R s m args meth c G dep mc ms nL own cc) {q : Fin 4} {i : Nat} {x : Int32} (j : Nat) (hj : lv[j]? = some (i, .int x)) (hdg : decode cc pc = .ok (.iload_n q, 1)) (hi : (q : Nat) = i)
    (kk : V p l e R s m args below meth c Q G d σ0 mc ms nL σ k n tv (pc + 1) lv (.int x :: rest)) : V p l e R s m args below meth c Q G d σ0 mc ms nL σ k n tv pc lv rest := fun H locs ls cells slots h1 h2 hG hl => lv_iload_n X.1 X.2.1 hdg hi (lv_at hl j hj) (kk H locs ls cells slots h1 h2 hG hl)
theorem v_iload (X : VC p l R s m args meth c G dep mc ms nL own cc) {i : Nat} {x : Int32} (j : Nat) (hj : lv[j]? = some (i, .int x)) (hdg : decode cc pc = .ok (.iload i, 2))
    (kk : V p l e R s m args below meth c Q G d σ0 mc ms nL σ k n tv (pc + 2) lv (.int x :: rest)) : V p l e R s m args below meth c Q G d σ0 mc ms nL σ k n tv pc lv rest := fun H locs ls cells slots h1 h2 hG hl => lv_iload X.1 X.2.1 hdg (lv_at hl j hj) (kk H locs ls cells slots h1 h2 hG hl)
theorem v_aload_n (X : VC p l R s m args meth c G dep mc ms nL own cc) {q : Fin 4} {i : Nat} {r : Option Nat} (j : Nat) (hj : lv[j]? = some (i, va_rf r)) (hdg : decode cc pc = .ok (.aload_n q, 1)) (hi : (q : Nat) = i)
    (kk : V p l e R s m args below meth c Q G d σ0 mc ms nL σ k n tv (pc + 1) lv (va_rf r :: rest)) : V p l e R s m args below meth c Q G d σ0 mc ms nL σ k n tv pc lv rest := by
  intro H locs ls cells slots h1 h2 hG hl
  have h := lv_at hl j hj
  have k9 := kk H locs ls cells slots h1 h2 hG hl
  cases r with
  | none => exact lv_aload_nN X.1 X.2.1 hdg hi h k9
  | some a => exact lv_aload_n X.1 X.2.1 hdg hi h k9
theorem v_aload (X : VC p l R s m args meth c G dep mc ms nL own cc) {i : Nat} {r : Option Nat} (j : Nat) (hj : lv[j]? = some (i, va_rf r)) (hdg : decode cc pc = .ok (.aload i, 2))
    (kk : V p l e R s m args below meth c Q G d σ0 mc ms nL σ k n tv (pc + 2) lv (va_rf r :: rest)) : V p l e R s m args below meth c Q G d σ0 mc ms nL σ k n tv pc lv rest := by
  intro H locs ls cells slots h1 h2 hG hl
  have h := lv_at hl j hj
  have k9 := kk H locs ls cells slots h1 h2 hG hl
  cases r with
  | none => exact lv_aloadN X.1 X.2.1 hdg h k9
  | some a => exact lv_aload X.1 X.2.1 hdg h k9
theorem v_istore_n (X : VC p l R s m args meth c G dep mc ms nL own cc) {q : Fin 4} {i : Nat} {x : Int32} (lv' : List (Nat × Value)) (hdg : decode cc pc = .ok (.istore_n q, 1)) (hi : (q : Nat) = i) (hn : i < nL) (hL : (i, (.int x : Value)) :: lv.filter (fun q => !(q.1 == i) && !(q.1 + 1 == i && q.2.category == 2)) = lv')
    (kk : V p l e R s m args below meth c Q G d σ0 mc ms nL σ k n tv (pc + 1) lv' rest) : V p l e R s m args below meth c Q G d σ0 mc ms nL σ k n tv pc lv (.int x :: rest) := fun H locs ls cells slots h1 h2 hG hl => lv_istore_n X.1 X.2.1 hdg hi hl hn hL (fun ls2 hl2 => kk H locs ls2 cells slots h1 h2 hG hl2)
theorem v_istore (X : VC p l R s m args meth c G dep mc ms nL own cc) {i : Nat} {x : Int32} (lv' : List (Nat × Value)) (hdg : decode cc pc = .ok (.istore i, 2)) (hn : i < nL) (hL : (i, (.int x : Value)) :: lv.filter (fun q => !(q.1 == i) && !(q.1 + 1 == i && q.2.category == 2)) = lv')
    (kk : V p l e R s m args below meth c Q G d σ0 mc ms nL σ k n tv (pc + 2) lv' rest) : V p l e R s m args below meth c Q G d σ0 mc ms nL σ k n tv pc lv (.int x :: rest) := fun H locs ls cells slots h1 h2 hG hl => lv_istore X.1 X.2.1 hdg hl hn hL (fun ls2 hl2 => kk H locs ls2 cells slots h1 h2 hG hl2)
theorem v_astore_n (X : VC p l R s m args meth c G dep mc ms nL own cc) {q : Fin 4} {i : Nat} {r : Option Nat} (lv' : List (Nat × Value)) (hdg : decode cc pc = .ok (.astore_n q, 1)) (hi : (q : Nat) = i) (hn : i < nL) (hL : (i, (va_rf r : Value)) :: lv.filter (fun q => !(q.1 == i) && !(q.1 + 1 == i && q.2.category == 2)) = lv')
    (kk : V p l e R s m args below meth c Q G d σ0 mc ms nL σ k n tv (pc + 1) lv' rest) : V p l e R s m args below meth c Q G d σ0 mc ms nL σ k n tv pc lv (va_rf r :: rest) := by
  intro H locs ls cells slots h1 h2 hG hl
  cases r with
  | none => exact lv_astore_nN X.1 X.2.1 hdg hi hl hn hL (fun ls2 hl2 => kk H locs ls2 cells slots h1 h2 hG hl2)
  | some a => exact lv_astore_n X.1 X.2.1 hdg hi hl hn hL (fun ls2 hl2 => kk H locs ls2 cells slots h1 h2 hG hl2)
theorem v_astore (X : VC p l R s m args meth c G dep mc ms nL own cc) {i : Nat} {r : Option Nat} (lv' : List (Nat × Value)) (hdg : decode cc pc = .ok (.astore i, 2)) (hn : i < nL) (hL : (i, (va_rf r : Value)) :: lv.filter (fun q => !(q.1 == i) && !(q.1 + 1 == i && q.2.category == 2)) = lv')
    (kk : V p l e R s m args below meth c Q G d σ0 mc ms nL σ k n tv (pc + 2) lv' rest) : V p l e R s m args below meth c Q G d σ0 mc ms nL σ k n tv pc lv (va_rf r :: rest) := by
  intro H locs ls cells slots h1 h2 hG hl
  cases r with
  | none => exact lv_astoreN X.1 X.2.1 hdg hl hn hL (fun ls2 hl2 => kk H locs ls2 cells slots h1 h2 hG hl2)
  | some a => exact lv_astore X.1 X.2.1 hdg hl hn hL (fun ls2 hl2 => kk H locs ls2 cells slots h1 h2 hG hl2)
theorem v_iinc (X : VC p l R s m args meth c G dep mc ms nL own cc) {i : Nat} {q : Int} {x : Int32} (v : Int32) (j : Nat) (hj : lv[j]? = some (i, .int x)) (lv' : List (Nat × Value)) (hdg : decode cc pc = .ok (.iinc i q, 3)) (hv : x + Int32.ofInt q = v) (hn : i < nL) (hL : (i, (.int v : Value)) :: lv.filter (fun q => !(q.1 == i) && !(q.1 + 1 == i && q.2.category == 2)) = lv')
    (kk : V p l e R s m args below meth c Q G d σ0 mc ms nL σ k n tv (pc + 3) lv' rest) : V p l e R s m args below meth c Q G d σ0 mc ms nL σ k n tv pc lv rest := fun H locs ls cells slots h1 h2 hG hl => lv_iinc X.1 X.2.1 hdg hl hj hv hn hL (fun ls2 hl2 => kk H locs ls2 cells slots h1 h2 hG hl2)
theorem v_if_eq (X : VC p l R s m args meth c G dep mc ms nL own cc) {x : Int32} {off : Int} (tgt : Nat) (hdg : decode cc pc = .ok (.ifCond .eq off, 3)) (ht : (pc : Int) + off = (tgt : Int))
    (kt : x = 0 → V p l e R s m args below meth c Q G d σ0 mc ms nL σ k n tv tgt lv rest) (kf : ¬ x = 0 → V p l e R s m args below meth c Q G d σ0 mc ms nL σ k n tv (pc + 3) lv rest) : V p l e R s m args below meth c Q G d σ0 mc ms nL σ k n tv pc lv (.int x :: rest) := fun H locs ls cells slots h1 h2 hG hl => lv_if_eq X.1 X.2.1 hdg ht (fun q => kt q H locs ls cells slots h1 h2 hG hl) (fun q => kf q H locs ls cells slots h1 h2 hG hl)
theorem v_icmp_eq (X : VC p l R s m args meth c G dep mc ms nL own cc) {x y : Int32} {off : Int} (tgt : Nat) (hdg : decode cc pc = .ok (.if_icmp .eq off, 3)) (ht : (pc : Int) + off = (tgt : Int))
    (kt : x = y → V p l e R s m args below meth c Q G d σ0 mc ms nL σ k n tv tgt lv rest) (kf : ¬ x = y → V p l e R s m args below meth c Q G d σ0 mc ms nL σ k n tv (pc + 3) lv rest) : V p l e R s m args below meth c Q G d σ0 mc ms nL σ k n tv pc lv (.int y :: .int x :: rest) := fun H locs ls cells slots h1 h2 hG hl => lv_icmp_eq X.1 X.2.1 hdg ht (fun q => kt q H locs ls cells slots h1 h2 hG hl) (fun q => kf q H locs ls cells slots h1 h2 hG hl)
theorem v_if_ne (X : VC p l R s m args meth c G dep mc ms nL own cc) {x : Int32} {off : Int} (tgt : Nat) (hdg : decode cc pc = .ok (.ifCond .ne off, 3)) (ht : (pc : Int) + off = (tgt : Int))
    (kt : ¬ x = 0 → V p l e R s m args below meth c Q G d σ0 mc ms nL σ k n tv tgt lv rest) (kf : x = 0 → V p l e R s m args below meth c Q G d σ0 mc ms nL σ k n tv (pc + 3) lv rest) : V p l e R s m args below meth c Q G d σ0 mc ms nL σ k n tv pc lv (.int x :: rest) := fun H locs ls cells slots h1 h2 hG hl => lv_if_ne X.1 X.2.1 hdg ht (fun q => kt q H locs ls cells slots h1 h2 hG hl) (fun q => kf q H locs ls cells slots h1 h2 hG hl)
theorem v_icmp_ne (X : VC p l R s m args meth c G dep mc ms nL own cc) {x y : Int32} {off : Int} (tgt : Nat) (hdg : decode cc pc = .ok (.if_icmp .ne off, 3)) (ht : (pc : Int) + off = (tgt : Int))
    (kt : ¬ x = y → V p l e R s m args below meth c Q G d σ0 mc ms nL σ k n tv tgt lv rest) (kf : x = y → V p l e R s m args below meth c Q G d σ0 mc ms nL σ k n tv (pc + 3) lv rest) : V p l e R s m args below meth c Q G d σ0 mc ms nL σ k n tv pc lv (.int y :: .int x :: rest) := fun H locs ls cells slots h1 h2 hG hl => lv_icmp_ne X.1 X.2.1 hdg ht (fun q => kt q H locs ls cells slots h1 h2 hG hl) (fun q => kf q H locs ls cells slots h1 h2 hG hl)
theorem v_if_lt (X : VC p l R s m args meth c G dep mc ms nL own cc) {x : Int32} {off : Int} (tgt : Nat) (hdg : decode cc pc = .ok (.ifCond .lt off, 3)) (ht : (pc : Int) + off = (tgt : Int))
    (kt : x < 0 → V p l e R s m args below meth c Q G d σ0 mc ms nL σ k n tv tgt lv rest) (kf : ¬ x < 0 → V p l e R s m args below meth c Q G d σ0 mc ms nL σ k n tv (pc + 3) lv rest) : V p l e R s m args below meth c Q G d σ0 mc ms nL σ k n tv pc lv (.int x :: rest) := fun H locs ls cells slots h1 h2 hG hl => lv_if_lt X.1 X.2.1 hdg ht (fun q => kt q H locs ls cells slots h1 h2 hG hl) (fun q => kf q H locs ls cells slots h1 h2 hG hl)
theorem v_icmp_lt (X : VC p l R s m args meth c G dep mc ms nL own cc) {x y : Int32} {off : Int} (tgt : Nat) (hdg : decode cc pc = .ok (.if_icmp .lt off, 3)) (ht : (pc : Int) + off = (tgt : Int))
    (kt : x < y → V p l e R s m args below meth c Q G d σ0 mc ms nL σ k n tv tgt lv rest) (kf : ¬ x < y → V p l e R s m args below meth c Q G d σ0 mc ms nL σ k n tv (pc + 3) lv rest) : V p l e R s m args below meth c Q G d σ0 mc ms nL σ k n tv pc lv (.int y :: .int x :: rest) := fun H locs ls cells slots h1 h2 hG hl => lv_icmp_lt X.1 X.2.1 hdg ht (fun q => kt q H locs ls cells slots h1 h2 hG hl) (fun q => kf q H locs ls cells slots h1 h2 hG hl)
theorem v_if_ge (X : VC p l R s m args meth c G dep mc ms nL own cc) {x : Int32} {off : Int} (tgt : Nat) (hdg : decode cc pc = .ok (.ifCond .ge off, 3)) (ht : (pc : Int) + off = (tgt : Int))
    (kt : 0 ≤ x → V p l e R s m args below meth c Q G d σ0 mc ms nL σ k n tv tgt lv rest) (kf : ¬ 0 ≤ x → V p l e R s m args below meth c Q G d σ0 mc ms nL σ k n tv (pc + 3) lv rest) : V p l e R s m args below meth c Q G d σ0 mc ms nL σ k n tv pc lv (.int x :: rest) := fun H locs ls cells slots h1 h2 hG hl => lv_if_ge X.1 X.2.1 hdg ht (fun q => kt q H locs ls cells slots h1 h2 hG hl) (fun q => kf q H locs ls cells slots h1 h2 hG hl)
theorem v_icmp_ge (X : VC p l R s m args meth c G dep mc ms nL own cc) {x y : Int32} {off : Int} (tgt : Nat) (hdg : decode cc pc = .ok (.if_icmp .ge off, 3)) (ht : (pc : Int) + off = (tgt : Int))
    (kt : y ≤ x → V p l e R s m args below meth c Q G d σ0 mc ms nL σ k n tv tgt lv rest) (kf : ¬ y ≤ x → V p l e R s m args below meth c Q G d σ0 mc ms nL σ k n tv (pc + 3) lv rest) : V p l e R s m args below meth c Q G d σ0 mc ms nL σ k n tv pc lv (.int y :: .int x :: rest) := fun H locs ls cells slots h1 h2 hG hl => lv_icmp_ge X.1 X.2.1 hdg ht (fun q => kt q H locs ls cells slots h1 h2 hG hl) (fun q => kf q H locs ls cells slots h1 h2 hG hl)
theorem v_if_gt (X : VC p l R s m args meth c G dep mc ms nL own cc) {x : Int32} {off : Int} (tgt : Nat) (hdg : decode cc pc = .ok (.ifCond .gt off, 3)) (ht : (pc : Int) + off = (tgt : Int))
    (kt : 0 < x → V p l e R s m args below meth c Q G d σ0 mc ms nL σ k n tv tgt lv rest) (kf : ¬ 0 < x → V p l e R s m args below meth c Q G d σ0 mc ms nL σ k n tv (pc + 3) lv rest) : V p l e R s m args below meth c Q G d σ0 mc ms nL σ k n tv pc lv (.int x :: rest) := fun H locs ls cells slots h1 h2 hG hl => lv_if_gt X.1 X.2.1 hdg ht (fun q => kt q H locs ls cells slots h1 h2 hG hl) (fun q => kf q H locs ls cells slots h1 h2 hG hl)
theorem v_icmp_gt (X : VC p l R s m args meth c G dep mc ms nL own cc) {x y : Int32} {off : Int} (tgt : Nat) (hdg : decode cc pc = .ok (.if_icmp .gt off, 3)) (ht : (pc : Int) + off = (tgt : Int))
    (kt : y < x → V p l e R s m args below meth c Q G d σ0 mc ms nL σ k n tv tgt lv rest) (kf : ¬ y < x → V p l e R s m args below meth c Q G d σ0 mc ms nL σ k n tv (pc + 3) lv rest) : V p l e R s m args below meth c Q G d σ0 mc ms nL σ k n tv pc lv (.int y :: .int x :: rest) := fun H locs ls cells slots h1 h2 hG hl => lv_icmp_gt X.1 X.2.1 hdg ht (fun q => kt q H locs ls cells slots h1 h2 hG hl) (fun q => kf q H locs ls cells slots h1 h2 hG hl)
theorem v_if_le (X : VC p l R s m args meth c G dep mc ms nL own cc) {x : Int32} {off : Int} (tgt : Nat) (hdg : decode cc pc = .ok (.ifCond .le off, 3)) (ht : (pc : Int) + off = (tgt : Int))
    (kt : x ≤ 0 → V p l e R s m args below meth c Q G d σ0 mc ms nL σ k n tv tgt lv rest) (kf : ¬ x ≤ 0 → V p l e R s m args below meth c Q G d σ0 mc ms nL σ k n tv (pc + 3) lv rest) : V p l e R s m args below meth c Q G d σ0 mc ms nL σ k n tv pc lv (.int x :: rest) := fun H locs ls cells slots h1 h2 hG hl => lv_if_le X.1 X.2.1 hdg ht (fun q => kt q H locs ls cells slots h1 h2 hG hl) (fun q => kf q H locs ls cells slots h1 h2 hG hl)
theorem v_icmp_le (X : VC p l R s m args meth c G dep mc ms nL own cc) {x y : Int32} {off : Int} (tgt : Nat) (hdg : decode cc pc = .ok (.if_icmp .le off, 3)) (ht : (pc : Int) + off = (tgt : Int))
    (kt : x ≤ y → V p l e R s m args below meth c Q G d σ0 mc ms nL σ k n tv tgt lv rest) (kf : ¬ x ≤ y → V p l e R s m args below meth c Q G d σ0 mc ms nL σ k n tv (pc + 3) lv rest) : V p l e R s m args below meth c Q G d σ0 mc ms nL σ k n tv pc lv (.int y :: .int x :: rest) := fun H locs ls cells slots h1 h2 hG hl => lv_icmp_le X.1 X.2.1 hdg ht (fun q => kt q H locs ls cells slots h1 h2 hG hl) (fun q => kf q H locs ls cells slots h1 h2 hG hl)
theorem v_goto (X : VC p l R s m args meth c G dep mc ms nL own cc) {off : Int} (tgt : Nat) (hdg : decode cc pc = .ok (.goto off, 3)) (ht : (pc : Int) + off = (tgt : Int))
    (kk : V p l e R s m args below meth c Q G d σ0 mc ms nL σ k n tv tgt lv rest) : V p l e R s m args below meth c Q G d σ0 mc ms nL σ k n tv pc lv rest := fun H locs ls cells slots h1 h2 hG hl => lv_goto X.1 X.2.1 hdg ht (kk H locs ls cells slots h1 h2 hG hl)
theorem v_acmp_eq (X : VC p l R s m args meth c G dep mc ms nL own cc) {r r2 : Option Nat} {off : Int} (tgt : Nat) (hdg : decode cc pc = .ok (.if_acmp .eq off, 3)) (ht : (pc : Int) + off = (tgt : Int))
    (kt : r = r2 → V p l e R s m args below meth c Q G d σ0 mc ms nL σ k n tv tgt lv rest) (kf : ¬ r = r2 → V p l e R s m args below meth c Q G d σ0 mc ms nL σ k n tv (pc + 3) lv rest) : V p l e R s m args below meth c Q G d σ0 mc ms nL σ k n tv pc lv (va_rf r2 :: va_rf r :: rest) := fun H locs ls cells slots h1 h2 hG hl => lv_acmp_eq X.1 X.2.1 hdg ht (fun q => kt q H locs ls cells slots h1 h2 hG hl) (fun q => kf q H locs ls cells slots h1 h2 hG hl)
theorem v_acmp_ne (X : VC p l R s m args meth c G dep mc ms nL own cc) {r r2 : Option Nat} {off : Int} (tgt : Nat) (hdg : decode cc pc = .ok (.if_acmp .ne off, 3)) (ht : (pc : Int) + off = (tgt : Int))
    (kt : ¬ r = r2 → V p l e R s m args below meth c Q G d σ0 mc ms nL σ k n tv tgt lv rest) (kf : r = r2 → V p l e R s m args below meth c Q G d σ0 mc ms nL σ k n tv (pc + 3) lv rest) : V p l e R s m args below meth c Q G d σ0 mc ms nL σ k n tv pc lv (va_rf r2 :: va_rf r :: rest) := fun H locs ls cells slots h1 h2 hG hl => lv_acmp_ne X.1 X.2.1 hdg ht (fun q => kt q H locs ls cells slots h1 h2 hG hl) (fun q => kf q H locs ls cells slots h1 h2 hG hl)
theorem v_ifnull (X : VC p l R s m args meth c G dep mc ms nL own cc) {r : Option Nat} {off : Int} (tgt : Nat) (hdg : decode cc pc = .ok (.ifnull off, 3)) (ht : (pc : Int) + off = (tgt : Int))
    (kt : r = none → V p l e R s m args below meth c Q G d σ0 mc ms nL σ k n tv tgt lv rest) (kf : ∀ b, r = some b → V p l e R s m args below meth c Q G d σ0 mc ms nL σ k n tv (pc + 3) lv rest) : V p l e R s m args below meth c Q G d σ0 mc ms nL σ k n tv pc lv (va_rf r :: rest) := by
  intro H locs ls cells slots h1 h2 hG hl
  cases r with
  | none => exact lv_ifnullN X.1 X.2.1 hdg ht (kt rfl H locs ls cells slots h1 h2 hG hl)
  | some a => exact lv_ifnull X.1 X.2.1 hdg (kf a rfl H locs ls cells slots h1 h2 hG hl)
theorem v_ifnonnull (X : VC p l R s m args meth c G dep mc ms nL own cc) {r : Option Nat} {off : Int} (tgt : Nat) (hdg : decode cc pc = .ok (.ifnonnull off, 3)) (ht : (pc : Int) + off = (tgt : Int))
    (kt : ∀ b, r = some b → V p l e R s m args below meth c Q G d σ0 mc ms nL σ k n tv tgt lv rest) (kf : r = none → V p l e R s m args below meth c Q G d σ0 mc ms nL σ k n tv (pc + 3) lv rest) : V p l e R s m args below meth c Q G d σ0 mc ms nL σ k n tv pc lv (va_rf r :: rest) := by
  intro H locs ls cells slots h1 h2 hG hl
  cases r with
  | none => exact lv_ifnonnullN X.1 X.2.1 hdg (kf rfl H locs ls cells slots h1 h2 hG hl)
  | some a => exact lv_ifnonnull X.1 X.2.1 hdg ht (kt a rfl H locs ls cells slots h1 h2 hG hl)
theorem v_topi {x : Int32} (kk : ∀ y : Int32, y = x → V p l e R s m args below meth c Q G d σ0 mc ms nL σ k n tv pc lv (.int y :: rest)) : V p l e R s m args below meth c Q G d σ0 mc ms nL σ k n tv pc lv (.int x :: rest) := kk x rfl
theorem v_sub (is js : List Nat) {tv' : List (Option Nat × Nat)} {lv' : List (Nat × Value)} (ht : is.filterMap (fun i => tv[i]?) = tv') (hL : lv_pick lv js = lv')
    (kk : V p l e R s m args below meth c Q G d σ0 mc ms nL σ k n tv' pc lv' rest) : V p l e R s m args below meth c Q G d σ0 mc ms nL σ k n tv pc lv rest := by
  intro H locs ls cells slots h1 h2 hG hl
  obtain ⟨g1, g2, g3, g4, g5⟩ := hG
  refine kk H locs ls cells slots h1 h2 ⟨g1, g2, g3, g4, fun q hq => ?_⟩ (lv_sub hl js hL)
  subst ht
  obtain ⟨i, -, hi⟩ := List.mem_filterMap.mp hq
  exact g5 q (List.mem_of_getElem? hi)
theorem gLt (X : VC p l R s m args meth c G dep mc ms nL own cc) : G.2.2.1 < G.2.2.2.1 ∧ G.2.2.2.1 ≤ s.heap.size := X.2.2.2.2.2.1.2.2.2.2.2.2.2
theorem gA (X : VC p l R s m args meth c G dep mc ms nL own cc) : ∀ q, s.heap.size ≤ q → GA G q := fun q h => Nat.le_trans (gLt X).2 h
theorem gs_set {τ : St} {H H1 : Heap} {locs locs1 : List Loc} {a i : Nat} {e0 e1 : va_E} (X : VC p l R s m args meth c G dep mc ms nL own cc) (hG : GS G s d σ0 σ tv H locs) (hW : WT G τ) (hK : sK τ = sK σ) (hd : kSide (sK σ a) = d ∨ d = 0) (hc : ∀ b, b ≠ a → cEq σ τ b)
    (hi : (wsH G σ H)[i]? = some (a, e0)) (he : cE G.2.1 τ a = some e1) (hP : va_P G.1 gCl ((wsH G σ H).set i (a, e1)) H1) (hS1 : va_S (GA G) s.heap H1 locs1) : GS G s d σ0 τ tv H1 locs1 := by
  obtain ⟨hH, hS, hE, hF, hT⟩ := hG
  have hx : ext σ τ := ext.w hK
  exact ⟨HP_set hH hS hS1 (gLt X).1 (gLt X).2 hW hK hc hi he hP, hS1, hE.tr hx, hF.tr hE (fr.w hd hc), hT.ext hx⟩
theorem gs_new {τ : St} {H H1 : Heap} {locs : List Loc} {q κ : Nat} {e1 : va_E} (X : VC p l R s m args meth c G dep mc ms nL own cc) (hG : GS G s d σ0 σ tv H locs) (hq : sK σ q = 0) (hκ : κ ≠ 0) (hW : WT G τ) (hK : sK τ = u1 q κ (sK σ)) (hc : ∀ b, b ≠ q → cEq σ τ b)
    (he : cE G.2.1 τ q = some e1) (hP : va_P G.1 gCl (wsH G σ H ++ [(q, e1)]) H1) (hS1 : va_S (GA G) s.heap H1 locs) : GS G s d σ0 τ ((some q, κ) :: tv) H1 locs := by
  obtain ⟨hH, hS, hE, hF, hT⟩ := hG
  have hx : ext σ τ := ext.n hq hK
  exact ⟨HP_new hH hS hS1 (gLt X).1 (gLt X).2 (fun q9 => by rw [q9, hH.2.2.2.2.2.2.2] at hq; cases hq) hW hK hc he hP, hS1, hE.tr hx, hF.tr hE (fr.n hq hc), (hT.ext hx).cons fun b hb => by cases hb; exact ⟨by rw [hK, u1_at, if_pos rfl], hκ⟩⟩
theorem gSame {ref O nm ds : String} (X : VC p l R s m args meth c G dep mc ms nL own cc) (h : ref = O ∨ Cond.sameField ref O nm ds ∈ gTB) : ∀ x, s.fieldFound? O nm ds = some x → s.fieldFound? ref nm ds = some x := by
  rcases h with h | h
  · rw [h]; exact fun _ q => q
  · exact u_same (X.2.2.2.2.1 _ h)
theorem v_getI (X : VC p l R s m args meth c G dep mc ms nL own cc) (C : String) (T : u_T) (N κ ci : Nat) (hκ : isO κ = true ∧ kCi κ = ci) (hcl : gCl[ci]? = some (C, T, N)) (hin : ∀ w ∈ u_ws C T N, w ∈ gTB) (f fid : Nat) (ref : String) (hsm : ref = (T f).1 ∨ Cond.sameField ref (T f).1 (T f).2.1 (T f).2.2.1 ∈ gTB) {index a : Nat} (j : Nat) (hj : tv[j]? = some (some a, κ)) (hf : (kF κ)[f]? = some (false, fid)) (hN : f < N) (hw : Cond.fieldLink own index ref (T f).2.1 (T f).2.2.1 ∈ gTB) (hdg : decode cc pc = .ok (.getfield index, 3))
    (kk : V p l e R s m args below meth c Q G d σ0 mc ms nL σ k n tv (pc + 3) lv (.int (sI σ fid a) :: rest)) : V p l e R s m args below meth c Q G d σ0 mc ms nL σ k n tv pc lv (va_rf (some a) :: rest) := by
  intro H locs ls cells slots h1 h2 hG hl
  obtain ⟨hH, hS, hE, hF, hT⟩ := id hG
  have ha := hH.at (cE_o (hT.at j hj).1 hκ) (Or.inl (by rw [(hT.at j hj).1]; exact isO_50 hκ.1))
  exact va_get X.1 X.2.1 X.2.2.2.2.1 hin X.2.2.2.1 X.2.2.2.2.2.1.1 (vP1 ha) 0 rfl hcl f hN (X.2.2.2.2.1 _ hw) (gSame X hsm) (fV_at hf) hdg (kk H locs ls cells slots h1 h2 hG hl)
theorem v_getR (X : VC p l R s m args meth c G dep mc ms nL own cc) (C : String) (T : u_T) (N κ ci : Nat) (hκ : isO κ = true ∧ kCi κ = ci) (hcl : gCl[ci]? = some (C, T, N)) (hin : ∀ w ∈ u_ws C T N, w ∈ gTB) (f fid : Nat) (ref : String) (hsm : ref = (T f).1 ∨ Cond.sameField ref (T f).1 (T f).2.1 (T f).2.2.1 ∈ gTB) {index a : Nat} (j : Nat) (κ' : Nat) (hj : tv[j]? = some (some a, κ)) (hf : (kF κ)[f]? = some (true, fid)) (hκ' : fTgt fid = κ') (hN : f < N) (hw : Cond.fieldLink own index ref (T f).2.1 (T f).2.2.1 ∈ gTB) (hdg : decode cc pc = .ok (.getfield index, 3))
    (kk : ∀ r : Option Nat, r = sR σ fid a → V p l e R s m args below meth c Q G d σ0 mc ms nL σ k n ((r, κ') :: tv) (pc + 3) lv (va_rf r :: rest)) : V p l e R s m args below meth c Q G d σ0 mc ms nL σ k n tv pc lv (va_rf (some a) :: rest) := by
  intro H locs ls cells slots h1 h2 hG hl
  obtain ⟨hH, hS, hE, hF, hT⟩ := id hG
  have ha := hH.at (cE_o (hT.at j hj).1 hκ) (Or.inl (by rw [(hT.at j hj).1]; exact isO_50 hκ.1))
  subst hκ'
  exact va_get X.1 X.2.1 X.2.2.2.2.1 hin X.2.2.2.1 X.2.2.2.2.2.1.1 (vP1 ha) 0 rfl hcl f hN (X.2.2.2.2.1 _ hw) (gSame X hsm) (fV_atR hf) hdg (kk _ rfl H locs ls cells slots h1 h2 ⟨hH, hS, hE, hF, hT.cons fun b hb => hH.2.2.1 fid a b hb⟩ hl)
theorem kF_id : ∀ κ, κ < 31 → ∀ g, g < 65 → ∀ q, (kF κ)[g]? = some q → q.2 = 100 * kCi κ + g := by
  have h : ∀ κ, κ < 31 → ∀ g, g < 65 → ((kF κ)[g]?.all (fun q => q.2 == 100 * kCi κ + g)) = true := by decide +kernel
  intro κ hc g hg q hq
  have h1 := h κ hc g hg
  rw [hq] at h1
  exact eq_of_beq h1
theorem kF_len : ∀ κ, κ < 31 → (kF κ).length ≤ 65 := by decide +kernel
theorem kF_ne {κ f g : Nat} {q q2 : Bool × Nat} (hc : κ < 31) (h : (kF κ)[f]? = some q) (h2 : (kF κ)[g]? = some q2) (hn : f ≠ g) : q2.2 ≠ q.2 := by
  have l1 := (List.getElem?_eq_some_iff.mp h).1
  have l2 := (List.getElem?_eq_some_iff.mp h2).1
  have k0 := kF_len κ hc
  rw [kF_id κ hc f (by omega) q h, kF_id κ hc g (by omega) q2 h2]
  omega
theorem isO_lt {κ : Nat} (h : isO κ = true) : κ < 31 ∧ κ ≠ 0 := by
  unfold isO at h
  simp at h
  omega
theorem isO_nd {κ : Nat} (h : isO κ = true) : κ ≠ 50 := by
  have := isO_lt h
  omega
theorem fV_setI {κ f fid a : Nat} {v : Int32} (hc : κ < 31) (h : (kF κ)[f]? = some (false, fid)) : ((kF κ).map (fV σ a)).set f (.int v) = (kF κ).map (fV (setI fid a v σ) a) := by
  have l1 := (List.getElem?_eq_some_iff.mp h).1
  apply List.ext_getElem?
  intro g
  rw [List.getElem?_set, List.getElem?_map, List.getElem?_map]
  by_cases hg : f = g
  · subst hg
    rw [if_pos rfl, if_pos (by rw [List.length_map]; exact l1), h]
    simp [fV, sI_setI, u2_at]
  · rw [if_neg hg]
    cases hq : (kF κ)[g]? with
    | none => rfl
    | some q =>
      have hne := kF_ne hc h hq hg
      simp only at hne
      simp [fV, sI_setI, sR_setI, u2_at, hne]
theorem fV_setR {κ f fid a : Nat} {v : Option Nat} (hc : κ < 31) (h : (kF κ)[f]? = some (true, fid)) : ((kF κ).map (fV σ a)).set f (va_rf v) = (kF κ).map (fV (setR fid a v σ) a) := by
  have l1 := (List.getElem?_eq_some_iff.mp h).1
  apply List.ext_getElem?
  intro g
  rw [List.getElem?_set, List.getElem?_map, List.getElem?_map]
  by_cases hg : f = g
  · subst hg
    rw [if_pos rfl, if_pos (by rw [List.length_map]; exact l1), h]
    simp [fV, sR_setR, u2_at]
  · rw [if_neg hg]
    cases hq : (kF κ)[g]? with
    | none => rfl
    | some q =>
      have hne := kF_ne hc h hq hg
      simp only at hne
      simp [fV, sI_setR, sR_setR, u2_at, hne]
theorem WT_setR {f a : Nat} {v : Option Nat} (h : WT G σ) (hv : ∀ b, v = some b → sK σ b = fTgt f ∧ fTgt f ≠ 0) : WT G (setR f a v σ) := by
  obtain ⟨h1, h2, h3⟩ := h
  refine ⟨h1, fun f' a' b hb => ?_, h3⟩
  rw [sR_setR, u2_at] at hb
  rw [sK_setR]
  split at hb
  · next q => rw [q.1]; exact hv b hb
  · exact h2 f' a' b hb
theorem WT_setQ {a j : Nat} {v : Option Nat} (h : WT G σ) (hv : ∀ b, v = some b → okE (sK σ a) (sK σ b)) : WT G (setQ a j v σ) := by
  obtain ⟨h1, h2, h3, h4⟩ := h
  refine ⟨h1, h2, fun a' j' b hb => ?_, h4⟩
  rw [sQ_setQ, u2_at] at hb
  rw [sK_setQ]
  split at hb
  · next q => rw [q.1]; exact hv b hb
  · exact h3 a' j' b hb
theorem WT_cpyQ {a : Nat} {v : Nat → Option Nat} (h : WT G σ) (hv : ∀ j b, v j = some b → okE (sK σ a) (sK σ b)) : WT G (cpyQ a v σ) := by
  obtain ⟨h1, h2, h3, h4⟩ := h
  refine ⟨h1, h2, fun a' j' b hb => ?_, h4⟩
  rw [sQ_cpyQ, u2l_at] at hb
  rw [sK_cpyQ]
  split at hb
  · next q => rw [q]; exact hv j' b hb
  · exact h3 a' j' b hb
/-- a new cell of a kind at q -/
theorem WT_new {q κ : Nat} {τ : St} (h : WT G σ) (hq : sK σ q = 0) (hA : GA G q) (hlt : G.2.2.1 < G.2.2.2.1) (hK : sK τ = u1 q κ (sK σ)) (hR : ∀ f a b, sR τ f a = some b → sR σ f a = some b) (hQ : ∀ a j b, sQ τ a j = some b → (a ≠ q ∨ kElem κ = 0) ∧ sQ σ a j = some b) (hC : sC τ = sC σ) (hL : ∀ a, a ≠ q → sL τ a = sL σ a) : WT G τ := by
  obtain ⟨h1, h2, h3, h4, h5, h6, h7⟩ := h
  have hd : G.2.2.1 ≠ q := fun e => by unfold GA at hA; rw [← e] at hA; omega
  refine ⟨fun a ha => ?_, fun f a b hb => ?_, fun a j b hb => ?_, ?_, ?_, ?_, ?_⟩
  · by_cases e : a = q
    · rw [e]; exact Or.inl hA
    · rw [hK, u1_at, if_neg e] at ha; exact h1 a ha
  · have g2 := hR f a b hb
    obtain ⟨g3, g4⟩ := h2 f a b g2
    have e : b ≠ q := fun e => g4 (by rw [← g3, e]; exact hq)
    rw [hK, u1_at, if_neg e]
    exact ⟨g3, g4⟩
  · obtain ⟨g1, g2⟩ := hQ a j b hb
    have g3 := h3 a j b g2
    have e : b ≠ q := fun e => okE_ne g3 (by rw [e]; exact hq)
    have eb : sK τ b = sK σ b := by rw [hK, u1_at, if_neg e]
    rw [eb]
    by_cases ea : a = q
    · have hz : kElem κ = 0 := by
        rcases g1 with g | g
        · exact absurd ea g
        · exact g
      rw [ea, hq] at g3
      have g4 : isE (sK σ b) = true := g3
      unfold okE
      rw [hK, u1_at, if_pos ea, if_pos hz]
      exact g4
    · have ek : sK τ a = sK σ a := by rw [hK, u1_at, if_neg ea]
      rw [ek]
      exact g3
  · rw [hC]; exact h4
  · rw [hC]; exact h5
  · rw [hL _ hd]; exact h6
  · rw [hK, u1_at, if_neg hd]; exact h7
theorem rf_fit (ty : FieldType) (hty : ty.isReference = true) (r : Option Nat) : narrow ty (va_rf r) = va_rf r ∧ fits ty (va_rf r) = true := by
  cases ty <;> first | (simp [FieldType.isReference] at hty; done) | (cases r <;> exact ⟨rfl, rfl⟩)
theorem int_fit (v : Int32) : narrow .int (.int v) = .int v ∧ fits .int (.int v) = true := ⟨rfl, rfl⟩
theorem bool_fit {v : Int32} (h : v = 0 ∨ v = 1) : narrow .boolean (.int v) = .int v ∧ fits .boolean (.int v) = true := by
  rcases h with rfl | rfl <;> exact ⟨rfl, rfl⟩
theorem v_putI (X : VC p l R s m args meth c G dep mc ms nL own cc) (C : String) (T : u_T) (N κ ci : Nat) (hκ : isO κ = true ∧ kCi κ = ci) (hcl : gCl[ci]? = some (C, T, N)) (hin : ∀ w ∈ u_ws C T N, w ∈ gTB) (f fid : Nat) (ty0 : Nat → FieldType) (hty : ∀ k, k < N → parseFieldDescriptor (T k).2.2.1 = some (ty0 k)) (hnm : ∀ a, a < N → ∀ b, b < N → a ≠ b → (T a).2.1 ≠ (T b).2.1) (ref : String) (hsm : ref = (T f).1 ∨ Cond.sameField ref (T f).1 (T f).2.1 (T f).2.2.1 ∈ gTB) {index a : Nat} {v : Int32} (j : Nat) (hj : tv[j]? = some (some a, κ)) (ty : FieldType) (hv : narrow ty (.int v) = .int v ∧ fits ty (.int v) = true) (hf : (kF κ)[f]? = some (false, fid)) (hN : f < N) (hd : kSide κ = d ∨ d = 0) (hw : Cond.fieldLink own index ref (T f).2.1 (T f).2.2.1 ∈ gTB) (hfin : (T f).2.2.2 = false) (hpd : parseFieldDescriptor (T f).2.2.1 = some ty) (hdg : decode cc pc = .ok (.putfield index, 3))
    (kk : ∀ τ : St, τ = (setI fid a v σ) → V p l e R s m args below meth c Q G d σ0 mc ms nL τ k n tv (pc + 3) lv rest) : V p l e R s m args below meth c Q G d σ0 mc ms nL σ k n tv pc lv (.int v :: va_rf (some a) :: rest) := by
  intro H locs ls cells slots h1 h2 hG hl
  obtain ⟨hH, hS, hE, hF, hT⟩ := id hG
  have hk := (hT.at j hj).1
  obtain ⟨iw, hi⟩ := wsH_in hH (cE_o hk hκ) (fun q => isO_nd hκ.1 (by rw [← hk, q]; exact hH.2.2.2.2.2.2.2))
  have hlen : f < ((kF κ).map (fV σ a)).length := by rw [List.length_map]; exact (List.getElem?_eq_some_iff.mp hf).1
  refine va_put X.1 X.2.1 X.2.2.2.2.1 hin ty0 hty hnm X.2.2.2.1 X.2.2.2.2.2.1.1 (wsH_P hH) (wsH_D hH) hS iw hi hcl f hN (X.2.2.2.2.1 _ hw) (gSame X hsm) hfin hpd hv.1 hv.2 hlen hdg fun H1 locs1 hP hD hS1 => ?_
  rw [fV_setI (isO_lt hκ.1).1 hf] at hP
  exact kk _ rfl H1 _ ls cells slots h1 h2 (gs_set X hG hH.2 (sK_setI _ _ _ σ) (by rw [hk]; exact hd) (fun b hb => cEq_setI _ _ _ σ hb) hi (cE_o hk hκ) hP hS1) hl
theorem v_putIF (X : VC p l R s m args meth c G dep mc ms nL own cc) (C : String) (T : u_T) (N κ ci : Nat) (hκ : isO κ = true ∧ kCi κ = ci) (hcl : gCl[ci]? = some (C, T, N)) (hin : ∀ w ∈ u_ws C T N, w ∈ gTB) (f fid : Nat) (ty0 : Nat → FieldType) (hty : ∀ k, k < N → parseFieldDescriptor (T k).2.2.1 = some (ty0 k)) (hnm : ∀ a, a < N → ∀ b, b < N → a ≠ b → (T a).2.1 ≠ (T b).2.1) (ref : String) (hsm : ref = (T f).1 ∨ Cond.sameField ref (T f).1 (T f).2.1 (T f).2.2.1 ∈ gTB) {index a : Nat} {v : Int32} (j : Nat) (hj : tv[j]? = some (some a, κ)) (ty : FieldType) (hv : narrow ty (.int v) = .int v ∧ fits ty (.int v) = true) (hf : (kF κ)[f]? = some (false, fid)) (hN : f < N) (hd : kSide κ = d ∨ d = 0) (hw : Cond.fieldLink own index ref (T f).2.1 (T f).2.2.1 ∈ gTB) (hfin : (T f).2.2.2 = true) (hin2 : meth.name = "<init>") (hdecl : (T f).1 = own) (hpd : parseFieldDescriptor (T f).2.2.1 = some ty) (hdg : decode cc pc = .ok (.putfield index, 3))
    (kk : ∀ τ : St, τ = (setI fid a v σ) → V p l e R s m args below meth c Q G d σ0 mc ms nL τ k n tv (pc + 3) lv rest) : V p l e R s m args below meth c Q G d σ0 mc ms nL σ k n tv pc lv (.int v :: va_rf (some a) :: rest) := by
  intro H locs ls cells slots h1 h2 hG hl
  obtain ⟨hH, hS, hE, hF, hT⟩ := id hG
  have hk := (hT.at j hj).1
  obtain ⟨iw, hi⟩ := wsH_in hH (cE_o hk hκ) (fun q => isO_nd hκ.1 (by rw [← hk, q]; exact hH.2.2.2.2.2.2.2))
  have hlen : f < ((kF κ).map (fV σ a)).length := by rw [List.length_map]; exact (List.getElem?_eq_some_iff.mp hf).1
  refine va_putF X.1 X.2.1 X.2.2.2.2.1 hin ty0 hty hnm X.2.2.2.1 X.2.2.2.2.2.1.1 (wsH_P hH) (wsH_D hH) hS iw hi hcl f hN (X.2.2.2.2.1 _ hw) (gSame X hsm) hfin hin2 hdecl hpd hv.1 hv.2 hlen hdg fun H1 locs1 hP hD hS1 => ?_
  rw [fV_setI (isO_lt hκ.1).1 hf] at hP
  exact kk _ rfl H1 _ ls cells slots h1 h2 (gs_set X hG hH.2 (sK_setI _ _ _ σ) (by rw [hk]; exact hd) (fun b hb => cEq_setI _ _ _ σ hb) hi (cE_o hk hκ) hP hS1) hl
theorem v_putR (X : VC p l R s m args meth c G dep mc ms nL own cc) (C : String) (T : u_T) (N κ ci : Nat) (hκ : isO κ = true ∧ kCi κ = ci) (hcl : gCl[ci]? = some (C, T, N)) (hin : ∀ w ∈ u_ws C T N, w ∈ gTB) (f fid : Nat) (ty0 : Nat → FieldType) (hty : ∀ k, k < N → parseFieldDescriptor (T k).2.2.1 = some (ty0 k)) (hnm : ∀ a, a < N → ∀ b, b < N → a ≠ b → (T a).2.1 ≠ (T b).2.1) (ref : String) (hsm : ref = (T f).1 ∨ Cond.sameField ref (T f).1 (T f).2.1 (T f).2.2.1 ∈ gTB) {index a : Nat} {r : Option Nat} (j : Nat) (hj : tv[j]? = some (some a, κ)) (hr : ∀ b, r = some b → ∃ i : Nat, tv[i]? = some (some b, fTgt fid)) (hf : (kF κ)[f]? = some (true, fid)) (hN : f < N) (hd : kSide κ = d ∨ d = 0) (hw : Cond.fieldLink own index ref (T f).2.1 (T f).2.2.1 ∈ gTB) (hfin : (T f).2.2.2 = false) (hpd : parseFieldDescriptor (T f).2.2.1 = some (ty0 f)) (hre : (ty0 f).isReference = true) (hdg : decode cc pc = .ok (.putfield index, 3))
    (kk : ∀ τ : St, τ = (setR fid a r σ) → V p l e R s m args below meth c Q G d σ0 mc ms nL τ k n tv (pc + 3) lv rest) : V p l e R s m args below meth c Q G d σ0 mc ms nL σ k n tv pc lv (va_rf r :: va_rf (some a) :: rest) := by
  intro H locs ls cells slots h1 h2 hG hl
  obtain ⟨hH, hS, hE, hF, hT⟩ := id hG
  have hk := (hT.at j hj).1
  obtain ⟨iw, hi⟩ := wsH_in hH (cE_o hk hκ) (fun q => isO_nd hκ.1 (by rw [← hk, q]; exact hH.2.2.2.2.2.2.2))
  have hlen : f < ((kF κ).map (fV σ a)).length := by rw [List.length_map]; exact (List.getElem?_eq_some_iff.mp hf).1
  refine va_put X.1 X.2.1 X.2.2.2.2.1 hin ty0 hty hnm X.2.2.2.1 X.2.2.2.2.2.1.1 (wsH_P hH) (wsH_D hH) hS iw hi hcl f hN (X.2.2.2.2.1 _ hw) (gSame X hsm) hfin hpd (rf_fit _ hre r).1 (rf_fit _ hre r).2 hlen hdg fun H1 locs1 hP hD hS1 => ?_
  rw [fV_setR (isO_lt hκ.1).1 hf] at hP
  exact kk _ rfl H1 _ ls cells slots h1 h2 (gs_set X hG (WT_setR hH.2 fun b hb => by obtain ⟨i9, h9⟩ := hr b hb; exact hT.at i9 h9) (sK_setR _ _ _ σ) (by rw [hk]; exact hd) (fun b hb => cEq_setR _ _ _ σ hb) hi (cE_o hk hκ) hP hS1) hl
theorem v_putRF (X : VC p l R s m args meth c G dep mc ms nL own cc) (C : String) (T : u_T) (N κ ci : Nat) (hκ : isO κ = true ∧ kCi κ = ci) (hcl : gCl[ci]? = some (C, T, N)) (hin : ∀ w ∈ u_ws C T N, w ∈ gTB) (f fid : Nat) (ty0 : Nat → FieldType) (hty : ∀ k, k < N → parseFieldDescriptor (T k).2.2.1 = some (ty0 k)) (hnm : ∀ a, a < N → ∀ b, b < N → a ≠ b → (T a).2.1 ≠ (T b).2.1) (ref : String) (hsm : ref = (T f).1 ∨ Cond.sameField ref (T f).1 (T f).2.1 (T f).2.2.1 ∈ gTB) {index a : Nat} {r : Option Nat} (j : Nat) (hj : tv[j]? = some (some a, κ)) (hr : ∀ b, r = some b → ∃ i : Nat, tv[i]? = some (some b, fTgt fid)) (hf : (kF κ)[f]? = some (true, fid)) (hN : f < N) (hd : kSide κ = d ∨ d = 0) (hw : Cond.fieldLink own index ref (T f).2.1 (T f).2.2.1 ∈ gTB) (hfin : (T f).2.2.2 = true) (hin2 : meth.name = "<init>") (hdecl : (T f).1 = own) (hpd : parseFieldDescriptor (T f).2.2.1 = some (ty0 f)) (hre : (ty0 f).isReference = true) (hdg : decode cc pc = .ok (.putfield index, 3))
    (kk : ∀ τ : St, τ = (setR fid a r σ) → V p l e R s m args below meth c Q G d σ0 mc ms nL τ k n tv (pc + 3) lv rest) : V p l e R s m args below meth c Q G d σ0 mc ms nL σ k n tv pc lv (va_rf r :: va_rf (some a) :: rest) := by
  intro H locs ls cells slots h1 h2 hG hl
  obtain ⟨hH, hS, hE, hF, hT⟩ := id hG
  have hk := (hT.at j hj).1
  obtain ⟨iw, hi⟩ := wsH_in hH (cE_o hk hκ) (fun q => isO_nd hκ.1 (by rw [← hk, q]; exact hH.2.2.2.2.2.2.2))
  have hlen : f < ((kF κ).map (fV σ a)).length := by rw [List.length_map]; exact (List.getElem?_eq_some_iff.mp hf).1
  refine va_putF X.1 X.2.1 X.2.2.2.2.1 hin ty0 hty hnm X.2.2.2.1 X.2.2.2.2.2.1.1 (wsH_P hH) (wsH_D hH) hS iw hi hcl f hN (X.2.2.2.2.1 _ hw) (gSame X hsm) hfin hin2 hdecl hpd (rf_fit _ hre r).1 (rf_fit _ hre r).2 hlen hdg fun H1 locs1 hP hD hS1 => ?_
  rw [fV_setR (isO_lt hκ.1).1 hf] at hP
  exact kk _ rfl H1 _ ls cells slots h1 h2 (gs_set X hG (WT_setR hH.2 fun b hb => by obtain ⟨i9, h9⟩ := hr b hb; exact hT.at i9 h9) (sK_setR _ _ _ σ) (by rw [hk]; exact hd) (fun b hb => cEq_setR _ _ _ σ hb) hi (cE_o hk hκ) hP hS1) hl
theorem v_iald (X : VC p l R s m args meth c G dep mc ms nL own cc) {i : Int32} {a : Nat} (j : Nat) {κ : Nat} (hj : tv[j]? = some (some a, κ)) (hκ : κ = 20 ∨ κ = 21) (hi : vp_in i (sL σ a)) (hdg : decode cc pc = .ok (.iaload, 1))
    (kk : V p l e R s m args below meth c Q G d σ0 mc ms nL σ k n tv (pc + 1) lv (.int (sA σ a i.toNatClampNeg) :: rest)) : V p l e R s m args below meth c Q G d σ0 mc ms nL σ k n tv pc lv (.int i :: va_rf (some a) :: rest) := by
  intro H locs ls cells slots h1 h2 hG hl
  obtain ⟨hH, hS, hE, hF, hT⟩ := id hG
  have hk := (hT.at j hj).1
  have ha := hH.at (cE_a hk hκ) (Or.inr (vin_pos hi))
  exact va_iald X.1 X.2.1 X.2.2.2.2.2.1.1 (vP1 ha) 0 0 rfl rfl hi hdg (kk H locs ls cells slots h1 h2 hG hl)
theorem v_zald (X : VC p l R s m args meth c G dep mc ms nL own cc) {i : Int32} {a : Nat} (j : Nat) {κ : Nat} (hj : tv[j]? = some (some a, κ)) (hκ : κ = 22) (hi : vp_in i (sL σ a)) (hdg : decode cc pc = .ok (.baload, 1))
    (kk : V p l e R s m args below meth c Q G d σ0 mc ms nL σ k n tv (pc + 1) lv (.int (sA σ a i.toNatClampNeg) :: rest)) : V p l e R s m args below meth c Q G d σ0 mc ms nL σ k n tv pc lv (.int i :: va_rf (some a) :: rest) := by
  intro H locs ls cells slots h1 h2 hG hl
  obtain ⟨hH, hS, hE, hF, hT⟩ := id hG
  have hk := (hT.at j hj).1
  subst hκ
  have ha := hH.at (cE_z hk) (Or.inr (vin_pos hi))
  exact va_zald X.1 X.2.1 X.2.2.2.2.2.1.1 (vP1 ha) 0 1 rfl rfl hi hdg (kk H locs ls cells slots h1 h2 hG hl)
theorem upd_u2 {a j : Nat} {v : Int32} : upd (sA σ a) j v = sA (setA a j v σ) a := by
  funext q
  rw [sA_setA, u2_at]
  by_cases hq : q = j
  · simp [upd, hq]
  · simp [upd, hq]
theorem nar_b {v : Int32} (h : v = 0 ∨ v = 1) : vp_nar .boolean v = v := by
  rcases h with rfl | rfl <;> rfl
theorem v_iast (X : VC p l R s m args meth c G dep mc ms nL own cc) {i v : Int32} {a : Nat} (j : Nat) {κ : Nat} (hj : tv[j]? = some (some a, κ)) (hκ : κ = 20 ∨ κ = 21) (hd : kSide κ = d ∨ d = 0) (hi : vp_in i (sL σ a)) (hdg : decode cc pc = .ok (.iastore, 1))
    (kk : ∀ τ : St, τ = setA a i.toNatClampNeg v σ → V p l e R s m args below meth c Q G d σ0 mc ms nL τ k n tv (pc + 1) lv rest) : V p l e R s m args below meth c Q G d σ0 mc ms nL σ k n tv pc lv (.int v :: .int i :: va_rf (some a) :: rest) := by
  intro H locs ls cells slots h1 h2 hG hl
  obtain ⟨hH, hS, hE, hF, hT⟩ := id hG
  have hk := (hT.at j hj).1
  have hk2 : sK (setA a i.toNatClampNeg v σ) a = κ := hk
  obtain ⟨iw, hw⟩ := wsH_in hH (cE_a hk hκ) (fun q => by have := hH.2.2.2.2.2.2.2; rw [← q, hk] at this; omega)
  refine va_iast X.1 X.2.1 X.2.2.2.2.2.1.1 (wsH_P hH) (wsH_D hH) hS iw 0 hw rfl hi hdg fun H1 locs1 hP hD hS1 => ?_
  rw [upd_u2] at hP
  exact kk _ rfl H1 _ ls cells slots h1 h2 (gs_set X hG hH.2 (sK_setA _ _ _ σ) (by rw [hk]; exact hd) (fun b hb => cEq_setA _ _ _ σ hb) hw (cE_a hk2 hκ) hP hS1) hl
theorem v_zast (X : VC p l R s m args meth c G dep mc ms nL own cc) {i v : Int32} {a : Nat} (j : Nat) {κ : Nat} (hj : tv[j]? = some (some a, κ)) (hκ : κ = 22) (hd : kSide κ = d ∨ d = 0) (hi : vp_in i (sL σ a)) (hz : v = 0 ∨ v = 1) (hdg : decode cc pc = .ok (.bastore, 1))
    (kk : ∀ τ : St, τ = setA a i.toNatClampNeg v σ → V p l e R s m args below meth c Q G d σ0 mc ms nL τ k n tv (pc + 1) lv rest) : V p l e R s m args below meth c Q G d σ0 mc ms nL σ k n tv pc lv (.int v :: .int i :: va_rf (some a) :: rest) := by
  intro H locs ls cells slots h1 h2 hG hl
  obtain ⟨hH, hS, hE, hF, hT⟩ := id hG
  have hk := (hT.at j hj).1
  have hk2 : sK (setA a i.toNatClampNeg v σ) a = κ := hk
  subst hκ
  obtain ⟨iw, hw⟩ := wsH_in hH (cE_z hk) (fun q => by have := hH.2.2.2.2.2.2.2; rw [← q, hk] at this; omega)
  refine va_zast X.1 X.2.1 X.2.2.2.2.2.1.1 (wsH_P hH) (wsH_D hH) hS iw 1 hw rfl hi hdg fun H1 locs1 hP hD hS1 => ?_
  rw [nar_b hz, upd_u2] at hP
  exact kk _ rfl H1 _ ls cells slots h1 h2 (gs_set X hG hH.2 (sK_setA _ _ _ σ) (by rw [hk]; exact hd) (fun b hb => cEq_setA _ _ _ σ hb) hw (cE_z hk2) hP hS1) hl
theorem kQ_ty : ∀ κ, isQ κ = true → ∃ C : String, (gTys G.2.1)[kCa κ]? = some (G.2.1 (kCa κ), .object C) := by
  intro κ h
  unfold isQ at h
  simp at h
  rcases (show κ = 24 ∨ κ = 25 ∨ κ = 26 ∨ κ = 50 by omega) with rfl | rfl | rfl | rfl
  · exact ⟨_, rfl⟩
  · exact ⟨_, rfl⟩
  · exact ⟨_, rfl⟩
  · exact ⟨_, rfl⟩
theorem v_aald (X : VC p l R s m args meth c G dep mc ms nL own cc) {i : Int32} {a : Nat} (j : Nat) {κ : Nat} (κ' : Nat) (hj : tv[j]? = some (some a, κ)) (hκ : isQ κ = true ∧ kElem κ = κ' ∧ κ' ≠ 0) (hi : vp_in i (sL σ a)) (hdg : decode cc pc = .ok (.aaload, 1))
    (kk : ∀ r : Option Nat, r = sQ σ a i.toNatClampNeg → V p l e R s m args below meth c Q G d σ0 mc ms nL σ k n ((r, κ') :: tv) (pc + 1) lv (va_rf r :: rest)) : V p l e R s m args below meth c Q G d σ0 mc ms nL σ k n tv pc lv (.int i :: va_rf (some a) :: rest) := by
  intro H locs ls cells slots h1 h2 hG hl
  obtain ⟨hH, hS, hE, hF, hT⟩ := id hG
  have hk := (hT.at j hj).1
  obtain ⟨C, hC⟩ := kQ_ty (G := G) κ hκ.1
  refine va_aldq X.1 X.2.1 X.2.2.2.2.2.1.1 (vP1 (hH.at (cE_q hk hκ.1) (Or.inr (vin_pos hi)))) 0 _ rfl hC hi hdg (kk _ rfl H locs ls cells slots h1 h2 ⟨hH, hS, hE, hF, hT.cons fun b hb => ?_⟩ hl)
  have h9 := hH.2.2.2.1 a _ b hb
  unfold okE at h9
  rw [hk, hκ.2.1, if_neg hκ.2.2] at h9
  exact ⟨h9, hκ.2.2⟩
theorem v_aaldO (X : VC p l R s m args meth c G dep mc ms nL own cc) {i : Int32} {a : Nat} (j : Nat) (hj : tv[j]? = some (some a, 50)) (hi : vp_in i (sL σ a)) (hdg : decode cc pc = .ok (.aaload, 1))
    (kk : ∀ r : Option Nat, r = sQ σ a i.toNatClampNeg → V p l e R s m args below meth c Q G d σ0 mc ms nL σ k n tv (pc + 1) lv (va_rf r :: rest)) : V p l e R s m args below meth c Q G d σ0 mc ms nL σ k n tv pc lv (.int i :: va_rf (some a) :: rest) := by
  intro H locs ls cells slots h1 h2 hG hl
  obtain ⟨hH, hS, hE, hF, hT⟩ := id hG
  exact va_aldq X.1 X.2.1 X.2.2.2.2.2.1.1 (vP1 (hH.at (cE_q (hT.at j hj).1 rfl) (Or.inr (vin_pos hi)))) 0 6 rfl rfl hi hdg (kk _ rfl H locs ls cells slots h1 h2 hG hl)
theorem v_alen (X : VC p l R s m args meth c G dep mc ms nL own cc) {a : Nat} (j : Nat) {κ : Nat} (hj : tv[j]? = some (some a, κ)) (hκ : κ = 20 ∨ κ = 21 ∨ isQ κ = true) (hdg : decode cc pc = .ok (.arraylength, 1))
    (kk : V p l e R s m args below meth c Q G d σ0 mc ms nL σ k n tv (pc + 1) lv (.int (nI (sL σ a)) :: rest)) : V p l e R s m args below meth c Q G d σ0 mc ms nL σ k n tv pc lv (va_rf (some a) :: rest) := by
  intro H locs ls cells slots h1 h2 hG hl
  obtain ⟨hH, hS, hE, hF, hT⟩ := id hG
  have hk := (hT.at j hj).1
  rcases hκ with h | h | h
  · exact va_alen X.1 X.2.1 X.2.2.2.2.2.1.1 (vP1 (hH.at (cE_a hk (Or.inl h)) (Or.inl (by rw [hk, h]; decide)))) 0 0 rfl rfl rfl hdg (kk H locs ls cells slots h1 h2 hG hl)
  · exact va_alen X.1 X.2.1 X.2.2.2.2.2.1.1 (vP1 (hH.at (cE_a hk (Or.inr h)) (Or.inl (by rw [hk, h]; decide)))) 0 0 rfl rfl rfl hdg (kk H locs ls cells slots h1 h2 hG hl)
  · obtain ⟨C, hC⟩ := kQ_ty (G := G) κ h
    by_cases hd0 : a = G.2.2.1
    · have h8 := hH.1 a _ (cE_q hk h)
      unfold gAt at h8
      rw [if_pos hd0] at h8
      obtain ⟨ce, e1, e2, e3, e4, e5⟩ := h8
      have e6 : sL σ a = 0 := by rw [hd0]; exact hH.2.2.2.2.2.2.1
      have e7 : sK σ a = 50 := by rw [hd0]; exact hH.2.2.2.2.2.2.2
      obtain ⟨kA, comp, f1, f2, f3, f4⟩ := ((X.2.2.2.2.2.1.1).2 6 _ rfl).2
      exact W.alen (n := nI (sL σ a)) X.1 X.2.1 e1 (ty := .object "java/lang/Object") ⟨fun k q => (by rw [q] at e5; cases e5), kA, (by rw [e2]; exact f1), comp, f2⟩ (by rw [e6]; exact e3) rfl rfl hdg (kk H locs ls cells slots h1 h2 hG hl)
    · exact va_alen X.1 X.2.1 X.2.2.2.2.2.1.1 (vP1 ((hH.1 a _ (cE_q hk h)).ne hd0)) 0 _ rfl hC rfl hdg (kk H locs ls cells slots h1 h2 hG hl)
def gW (y : MethodName) (b : ByteArray) (nL : Nat) (ret : Option FieldType) : List Cond := Cond.code y b nL ret :: gTB
set_option maxRecDepth 10000 in
theorem rmD_ok {dep' k' n' maxL' : Nat} (h1 : dep' + 1 ≤ dep) (h2 : maxL' ≤ 21) (q1 : dep + 12 ≤ R.frames) (q2 : 40 * dep + 500 ≤ R.locals) : (rmD dep' k' n').frames + 1 ≤ R.frames ∧ 8 + (maxL' + 11) + (rmD dep' k' n').locals ≤ R.locals := by
  unfold rmD
  dsimp only
  constructor <;> omega
def rOk (κ : Nat) (r : Option Nat) (τ : St) : Prop := κ ≠ 0 → ∀ b, r = some b → sK τ b = κ
def gP (G : GX) (σ : St) : State → Prop := fun U => HP G σ U.heap ∧ GC G U
def gB (G : GX) (d : Nat) (σ : St) : St → State → Prop := fun τ t => HP G τ t.heap ∧ ext σ τ ∧ fr d σ τ
abbrev MI (l : Launch) (G : GX) (d : Nat) (σ : St) (y : MethodName) (b : ByteArray) (nL : Nat) (ret : Option FieldType) (dep mc ms : Nat) (av : List Value) (P : Int32 → St → Prop) : Prop := Met l y (gW y b nL ret) (rmD dep mc ms) (va_Pc av (gP G σ)) (va_Qi P (gB G d σ) (GA G)) mc ms (GA G)
abbrev MV (l : Launch) (G : GX) (d : Nat) (σ : St) (y : MethodName) (b : ByteArray) (nL : Nat) (dep mc ms : Nat) (av : List Value) (P : St → Prop) : Prop := Met l y (gW y b nL none) (rmD dep mc ms) (va_Pc av (gP G σ)) (va_Qv P (gB G d σ) (GA G)) mc ms (GA G)
abbrev MR (l : Launch) (G : GX) (d : Nat) (σ : St) (y : MethodName) (b : ByteArray) (nL : Nat) (ret : Option FieldType) (dep mc ms : Nat) (av : List Value) (κr : Nat) (P : Option Nat → St → Prop) : Prop := Met l y (gW y b nL ret) (rmD dep mc ms) (va_Pc av (gP G σ)) (va_Qq (fun r τ => P r τ ∧ rOk κr r τ) (gB G d σ) (GA G)) mc ms (GA G)
theorem gP_blind {av : List Value} : FrameBlind (va_Pc av (gP G σ)) := fun a U g mk q => ⟨q.1, q.2.1, GC_frame q.2.2⟩
/-- a method's start -/
theorem m_start {y : MethodName} {b : ByteArray} {ret : Option FieldType} {av : List Value} {Qc : Array Value → State → Outcome → State → Prop} (own : String) (hy : plainName y.cls = true ∧ y.cls = own) (htr : l.stackTraces = false) (htv : tvOk σ tv) (hent : (lg_sl av).length ≤ nL) (hlv : lv_args 0 av = lv)
    (body : ∀ (p : Program) (e : Env) (s : State) (m : MethodId) (args : Array Value) (below : List Frame) (meth : Method) (c : Code), VC p l (rmD dep mc ms) s m args meth c G dep mc ms nL own b → meth.sig.returnType = ret → meth.name = y.name →
      V p l e (rmD dep mc ms) s m args below meth c (MQ below Qc args s mc ms (GA G)) G d σ mc ms nL σ mc ms tv 0 lv []) : Met l y (gW y b nL ret) (rmD dep mc ms) (va_Pc av (gP G σ)) Qc mc ms (GA G) := by
  refine Met.ofW (cc := b) (maxL := nL) (ret := ret) hy.1 rfl ?_
  intro p e s m args below meth c s₁ B hml hv
  obtain ⟨rfl, hH, hC⟩ := hv
  have hts := atoms_spec (ws := gW y b nL ret) B.pre
  have hown : s.vm.findClass own = some m.cls := by rw [← hy.2]; exact findClass_of_methodNamed B.named
  have hl := lv_entry av (n := nL) hent
  rw [lg_entry_eq]
  rw [hlv] at hl
  exact body p e s m _ below meth c ⟨B.exec, B.bytes, hml, hown, fun w hw => hts w (List.mem_cons_of_mem _ hw), hC, B.notSynchronized, htr, Nat.le_refl _, Nat.le_refl _, rfl, rfl⟩ B.returns (name_of_methodNamed B.named B.method).1 s.heap [] _ 0 0 (Nat.zero_add _) (Nat.zero_add _) ⟨hH, va_S.rf, ext.rf σ, fr.rf d σ, htv⟩ hl
theorem v_iret (X : VC p l R s m args meth c G dep mc ms nL own cc) {P : Int32 → St → Prop} {v : Int32} (hr : meth.sig.returnType = some .int) (hq : P v σ) (hdg : decode cc pc = .ok (.ireturn, 1)) :
    V p l e R s m args below meth c (MQ below (va_Qi P (gB G d σ0) (GA G)) args s mc ms (GA G)) G d σ0 mc ms nL σ k n tv pc lv [.int v] := by
  intro H locs ls cells slots h1 h2 hG hl
  obtain ⟨hH, hS, hE, hF, hT⟩ := hG
  refine W.widen (k := mc) (n := ms) (by omega) (by omega) ?_
  exact W.iret X.1 X.2.1 hr (fun t ht hW => ⟨⟨v, σ, rfl, hq, by rw [gB, ht]; exact ⟨hH, hE, hF⟩⟩, hS.F ht⟩) hS.2.2 hdg X.2.2.2.2.2.2.1
theorem v_zret (X : VC p l R s m args meth c G dep mc ms nL own cc) {P : Int32 → St → Prop} {v : Int32} (hr : meth.sig.returnType = some .boolean) (hz : v = 0 ∨ v = 1) (hq : P v σ) (hdg : decode cc pc = .ok (.ireturn, 1)) :
    V p l e R s m args below meth c (MQ below (va_Qi P (gB G d σ0) (GA G)) args s mc ms (GA G)) G d σ0 mc ms nL σ k n tv pc lv [.int v] := by
  intro H locs ls cells slots h1 h2 hG hl
  obtain ⟨hH, hS, hE, hF, hT⟩ := hG
  refine W.widen (k := mc) (n := ms) (by omega) (by omega) ?_
  exact W.zret X.1 X.2.1 hr (bool_fit hz).1 (fun t ht hW => ⟨⟨v, σ, rfl, hq, by rw [gB, ht]; exact ⟨hH, hE, hF⟩⟩, hS.F ht⟩) hS.2.2 hdg X.2.2.2.2.2.2.1
theorem v_vret (X : VC p l R s m args meth c G dep mc ms nL own cc) {P : St → Prop} (hr : meth.sig.returnType = none) (hq : P σ) (hdg : decode cc pc = .ok (.return_, 1)) :
    V p l e R s m args below meth c (MQ below (va_Qv P (gB G d σ0) (GA G)) args s mc ms (GA G)) G d σ0 mc ms nL σ k n tv pc lv [] := by
  intro H locs ls cells slots h1 h2 hG hl
  obtain ⟨hH, hS, hE, hF, hT⟩ := hG
  refine W.widen (k := mc) (n := ms) (by omega) (by omega) ?_
  exact W.vret X.1 X.2.1 hr (fun t ht hW => ⟨⟨σ, rfl, hq, by rw [gB, ht]; exact ⟨hH, hE, hF⟩⟩, hS.F ht⟩) hS.2.2 hdg X.2.2.2.2.2.2.1
theorem v_aret (X : VC p l R s m args meth c G dep mc ms nL own cc) {κr : Nat} {P : Option Nat → St → Prop} {r : Option Nat} {rt : FieldType} (hr : meth.sig.returnType = some rt) (hrt : (∃ n, rt = .object n) ∨ ∃ t, rt = .array t) (hkr : κr = 0 ∨ r = none ∨ ∃ i : Nat, tv[i]? = some (r, κr)) (hq : P r σ) (hdg : decode cc pc = .ok (.areturn, 1)) :
    V p l e R s m args below meth c (MQ below (va_Qq (fun r τ => P r τ ∧ rOk κr r τ) (gB G d σ0) (GA G)) args s mc ms (GA G)) G d σ0 mc ms nL σ k n tv pc lv [va_rf r] := by
  intro H locs ls cells slots h1 h2 hG hl
  obtain ⟨hH, hS, hE, hF, hT⟩ := hG
  refine W.widen (k := mc) (n := ms) (by omega) (by omega) ?_
  exact W.aret X.1 X.2.1 hr hrt (va_rf_or r) (fun t ht hW => ⟨⟨r, σ, rfl, ⟨hq, fun h0 b hb => by
    rcases hkr with g | g | ⟨i, g⟩
    · exact absurd g h0
    · rw [g] at hb; cases hb
    · rw [hb] at g; exact (hT.at i g).1⟩, by rw [gB, ht]; exact ⟨hH, hE, hF⟩⟩, hS.F ht⟩) hS.2.2 hdg X.2.2.2.2.2.2.1
theorem tvOk.sub {tv' : List (Option Nat × Nat)} (h : tvOk σ tv) (is : List Nat) (ht : is.filterMap (fun i => tv[i]?) = tv') : tvOk σ tv' := fun q hq => by
  subst ht
  obtain ⟨i, -, hi⟩ := List.mem_filterMap.mp hq
  exact h q (List.mem_of_getElem? hi)
theorem gin {L : List Cond} (is : List Nat) (h : L.map some = is.map (fun i => tables_1[i]?)) (g : L.all goodWord = true) : ∀ w ∈ L, w ∈ gTB := fun w hw => by
  have h1 : some w ∈ is.map (fun i => tables_1[i]?) := by rw [← h]; exact List.mem_map.mpr ⟨w, hw, rfl⟩
  obtain ⟨i, -, hi⟩ := List.mem_map.mp h1
  exact gTm hi (List.all_eq_true.mp g w hw)
theorem gW_in {y : MethodName} {b : ByteArray} {nL : Nat} {ret : Option FieldType} (h : Cond.code y b nL ret ∈ gTB) : ∀ w ∈ gW y b nL ret, w ∈ gTB := fun w hw => (List.mem_cons.mp hw).elim (fun q => q ▸ h) id
theorem gV_in {own : String} {i : Nat} {C : String} {y : MethodName} {b : ByteArray} {nL : Nat} {ret : Option FieldType} (w1 : Cond.methodLink own i y ∈ gTB) (w2 : Cond.instanceMethod y ∈ gTB) (w3 : Cond.selects C y y ∈ gTB) (w4 : Cond.initialized C ∈ gTB) (w5 : Cond.code y b nL ret ∈ gTB) : ∀ w ∈ wsV own i C y (gW y b nL ret), w ∈ gTB := fun w hw => by
  rcases List.mem_append.mp hw with h | h
  · simp only [List.mem_cons, List.not_mem_nil, or_false] at h
    rcases h with rfl | rfl | rfl | rfl <;> assumption
  · exact gW_in w5 w h
theorem gS_in {own : String} {i : Nat} {y : MethodName} {b : ByteArray} {nL : Nat} {ret : Option FieldType} (w1 : Cond.methodLink own i y ∈ gTB) (w2 : Cond.static y ∈ gTB) (w4 : Cond.initialized own ∈ gTB) (w5 : Cond.code y b nL ret ∈ gTB) : ∀ w ∈ wsS own i y (gW y b nL ret), w ∈ gTB := fun w hw => by
  rcases List.mem_append.mp hw with h | h
  · simp only [List.mem_cons, List.not_mem_nil, or_false] at h
    rcases h with rfl | rfl | rfl <;> assumption
  · exact gW_in w5 w h
theorem gS2_in {own : String} {i : Nat} {y : MethodName} {b : ByteArray} {nL : Nat} {ret : Option FieldType} (w1 : Cond.methodLink own i y ∈ gTB) (w2 : Cond.static y ∈ gTB) (w4 : Cond.initialized y.cls ∈ gTB) (w5 : Cond.code y b nL ret ∈ gTB) : ∀ w ∈ va_wsS own i y (gW y b nL ret), w ∈ gTB := fun w hw => by
  rcases List.mem_append.mp hw with h | h
  · simp only [List.mem_cons, List.not_mem_nil, or_false] at h
    rcases h with rfl | rfl | rfl <;> assumption
  · exact gW_in w5 w h
theorem gRec {H : Heap} {C : String} {T : u_T} {N κ ci b : Nat} (hC : GC G s) (hH : HP G σ H) (hk : sK σ b = κ) (hκ : isO κ = true ∧ kCi κ = ci) (hcl : gCl[ci]? = some (C, T, N)) : ∃ cell : Cell, H[b]? = some cell ∧ cell.vm.isStatics = false ∧ s.vm.findClass C = some cell.cls :=
  va_recv (q0 := 0) hC.1 (vP1 (hH.at (cE_o hk hκ) (Or.inl (by rw [hk]; exact isO_50 hκ.1)))) hcl rfl
theorem gs_call {H H1 : Heap} {locs locs1 : List Loc} {τ : St} {t : State} {d' : Nat} (hG : GS G s d σ0 σ tv H locs) (hd : d' = d ∨ d = 0) (hB : gB G d' σ τ t) (ht : t.heap = H1) (hS : va_S (GA G) s.heap H1 locs1) : GS G s d σ0 τ tv H1 locs1 :=
  ⟨by rw [← ht]; exact hB.1, hS, hG.2.2.1.tr hB.2.1, hG.2.2.2.1.tr hG.2.2.1 (fr.of hd hB.2.2), hG.2.2.2.2.ext hB.2.1⟩
theorem gs_cons {H : Heap} {locs : List Loc} {τ : St} {r : Option Nat} {κ : Nat} (hG : GS G s d σ0 τ tv H locs) (h : ∀ b, r = some b → sK τ b = κ ∧ κ ≠ 0) : GS G s d σ0 τ ((r, κ) :: tv) H locs := ⟨hG.1, hG.2.1, hG.2.2.1, hG.2.2.2.1, hG.2.2.2.2.cons h⟩
theorem v_callTi (X : VC p l R s m args meth c G dep mc ms nL own cc) {y : MethodName} {bytes : ByteArray} {maxL' dep' index nA d' : Nat} {ret' : Option FieldType} {P : Int32 → St → Prop} {As : List Value} (k' n' k2 n2 : Nat) {st : List Value} (hM : tvOk σ tv → MI l G d' σ y bytes maxL' ret' dep' k' n' As P) (hd : d' = d ∨ d = 0) (hws : ∀ w ∈ va_wsS own index y (gW y bytes maxL' ret'), w ∈ gTB) (hy : y.cls ≠ "java/lang/invoke/MethodHandle" ∧ y.cls ≠ "java/lang/invoke/VarHandle" ∧ (parseMethodDescriptor y.desc).map (fun d => d.parameters.length) = some nA) (hn : As.length = nA) (hst : st = As.reverse ++ rest) (hcat : (rest.map fun v => v.category).sum ≤ 8) (hdep : dep' + 1 ≤ dep) (hmx : maxL' ≤ 21) (hk : k2 + k' = k) (hkn : n2 + n' = n) (hdg : decode cc pc = .ok (.invokestatic index, 3))
    (kk : ∀ (r : Int32) (τ : St), P r τ → ext σ τ → fr d' σ τ → V p l e R s m args below meth c Q G d σ0 mc ms nL τ k2 n2 tv (pc + 3) lv (.int r :: rest)) : V p l e R s m args below meth c Q G d σ0 mc ms nL σ k n tv pc lv st := by
  intro H locs ls cells slots h1 h2 hG hl
  obtain ⟨hH, hS, hE, hF, hT⟩ := id hG
  have hts := X.2.2.2.2.1
  have hR := rmD_ok (k' := k') (n' := n') hdep hmx X.2.2.2.2.2.2.2.2.1 X.2.2.2.2.2.2.2.2.2.1
  have hf : cells + k' ≤ R.cells ∧ slots + n' ≤ R.slots := by
    have q1 := X.2.2.2.2.2.2.2.2.2.2.1
    have q2 := X.2.2.2.2.2.2.2.2.2.2.2
    constructor <;> omega
  have hpre : ∀ U : State, U.heap = H → s.WarmedH U.vm → va_Pc As (gP G σ) (As).toArray U := fun U hU hW9 => ⟨rfl, by rw [hU]; exact hH, GC_call X.2.2.2.2.2.1 hS hU hW9⟩
  exact va_calli (va_runS (As := As) (rest := rest) ⟨X.1, X.2.1, X.2.2.1, X.2.2.2.1, hts⟩ (hM hT) (va_cwS nA hts (gGood hws) rfl rfl rfl hy hR) ⟨gP_blind, hpre⟩ rfl hn hl.1 hst (lv_room hcat) hdg hf) hS (fun q _ h => h) (fun q h => h) (fun r u t H1 locs1 ht hvm hp hB hz hk9 hS1 => kk r u hp hB.2.1 hB.2.2 H1 locs1 ls _ _ (by omega) (by omega) (gs_call hG hd hB ht hS1) hl)
theorem v_callTq (X : VC p l R s m args meth c G dep mc ms nL own cc) {y : MethodName} {bytes : ByteArray} {maxL' dep' index nA d' : Nat} {ret' : Option FieldType} {P : Option Nat → St → Prop} {κr : Nat} {As : List Value} (k' n' k2 n2 : Nat) {st : List Value} (hM : tvOk σ tv → MR l G d' σ y bytes maxL' ret' dep' k' n' As κr P) (hd : d' = d ∨ d = 0) (hκr : κr ≠ 0) (hws : ∀ w ∈ va_wsS own index y (gW y bytes maxL' ret'), w ∈ gTB) (hy : y.cls ≠ "java/lang/invoke/MethodHandle" ∧ y.cls ≠ "java/lang/invoke/VarHandle" ∧ (parseMethodDescriptor y.desc).map (fun d => d.parameters.length) = some nA) (hn : As.length = nA) (hst : st = As.reverse ++ rest) (hcat : (rest.map fun v => v.category).sum ≤ 8) (hdep : dep' + 1 ≤ dep) (hmx : maxL' ≤ 21) (hk : k2 + k' = k) (hkn : n2 + n' = n) (hdg : decode cc pc = .ok (.invokestatic index, 3))
    (kk : ∀ (r : Option Nat) (τ : St), P r τ → ext σ τ → fr d' σ τ → V p l e R s m args below meth c Q G d σ0 mc ms nL τ k2 n2 ((r, κr) :: tv) (pc + 3) lv (va_rf r :: rest)) : V p l e R s m args below meth c Q G d σ0 mc ms nL σ k n tv pc lv st := by
  intro H locs ls cells slots h1 h2 hG hl
  obtain ⟨hH, hS, hE, hF, hT⟩ := id hG
  have hts := X.2.2.2.2.1
  have hR := rmD_ok (k' := k') (n' := n') hdep hmx X.2.2.2.2.2.2.2.2.1 X.2.2.2.2.2.2.2.2.2.1
  have hf : cells + k' ≤ R.cells ∧ slots + n' ≤ R.slots := by
    have q1 := X.2.2.2.2.2.2.2.2.2.2.1
    have q2 := X.2.2.2.2.2.2.2.2.2.2.2
    constructor <;> omega
  have hpre : ∀ U : State, U.heap = H → s.WarmedH U.vm → va_Pc As (gP G σ) (As).toArray U := fun U hU hW9 => ⟨rfl, by rw [hU]; exact hH, GC_call X.2.2.2.2.2.1 hS hU hW9⟩
  exact va_callq (va_runS (As := As) (rest := rest) ⟨X.1, X.2.1, X.2.2.1, X.2.2.2.1, hts⟩ (hM hT) (va_cwS nA hts (gGood hws) rfl rfl rfl hy hR) ⟨gP_blind, hpre⟩ rfl hn hl.1 hst (lv_room hcat) hdg hf) hS (fun q _ h => h) (fun q h => h) (fun r u t H1 locs1 ht hvm hp hB hz hk9 hS1 => kk r u hp.1 hB.2.1 hB.2.2 H1 locs1 ls _ _ (by omega) (by omega) (gs_cons (gs_call hG hd hB ht hS1) (fun b hb => ⟨hp.2 hκr b hb, hκr⟩)) hl)
theorem v_callVi (X : VC p l R s m args meth c G dep mc ms nL own cc) {y : MethodName} {bytes : ByteArray} {maxL' dep' index nA d' : Nat} {ret' : Option FieldType} {P : Int32 → St → Prop} {b : Nat} {As : List Value} (k' n' k2 n2 : Nat) {st : List Value} (hM : tvOk σ tv → MI l G d' σ y bytes maxL' ret' dep' k' n' (va_rf (some b) :: As) P) (hd : d' = d ∨ d = 0) (j : Nat) {C : String} {T : u_T} {N ci : Nat} {κ : Nat} (hj : tv[j]? = some (some b, κ)) (hκ : isO κ = true ∧ kCi κ = ci) (hcl : gCl[ci]? = some (C, T, N)) (hws : ∀ w ∈ wsV own index C y (gW y bytes maxL' ret'), w ∈ gTB) (hy : y.cls = C ∧ y.cls ≠ "java/lang/invoke/MethodHandle" ∧ y.cls ≠ "java/lang/invoke/VarHandle" ∧ (parseMethodDescriptor y.desc).map (fun d => d.parameters.length) = some nA) (hn : As.length = nA) (hst : st = As.reverse ++ va_rf (some b) :: rest) (hcat : (rest.map fun v => v.category).sum ≤ 8) (hdep : dep' + 1 ≤ dep) (hmx : maxL' ≤ 21) (hk : k2 + k' = k) (hkn : n2 + n' = n) (hdg : decode cc pc = .ok (.invokevirtual index, 3))
    (kk : ∀ (r : Int32) (τ : St), P r τ → ext σ τ → fr d' σ τ → V p l e R s m args below meth c Q G d σ0 mc ms nL τ k2 n2 tv (pc + 3) lv (.int r :: rest)) : V p l e R s m args below meth c Q G d σ0 mc ms nL σ k n tv pc lv st := by
  intro H locs ls cells slots h1 h2 hG hl
  obtain ⟨hH, hS, hE, hF, hT⟩ := id hG
  have hts := X.2.2.2.2.1
  have hR := rmD_ok (k' := k') (n' := n') hdep hmx X.2.2.2.2.2.2.2.2.1 X.2.2.2.2.2.2.2.2.2.1
  have hf : cells + k' ≤ R.cells ∧ slots + n' ≤ R.slots := by
    have q1 := X.2.2.2.2.2.2.2.2.2.2.1
    have q2 := X.2.2.2.2.2.2.2.2.2.2.2
    constructor <;> omega
  have hpre : ∀ U : State, U.heap = H → s.WarmedH U.vm → va_Pc (va_rf (some b) :: As) (gP G σ) (va_rf (some b) :: As).toArray U := fun U hU hW9 => ⟨rfl, by rw [hU]; exact hH, GC_call X.2.2.2.2.2.1 hS hU hW9⟩
  exact va_calli (va_runV (As := As) (rest := rest) ⟨X.1, X.2.1, X.2.2.1, X.2.2.2.1, hts⟩ (hM hT) (cwV nA hts (gGood hws) rfl rfl rfl hy hR) ⟨gP_blind, gRec X.2.2.2.2.2.1 hH (hT.at j hj).1 hκ hcl, hpre⟩ rfl hn hl.1 hst (lv_room hcat) hdg hf) hS (fun q _ h => h) (fun q h => h) (fun r u t H1 locs1 ht hvm hp hB hz hk9 hS1 => kk r u hp hB.2.1 hB.2.2 H1 locs1 ls _ _ (by omega) (by omega) (gs_call hG hd hB ht hS1) hl)
theorem v_callVv (X : VC p l R s m args meth c G dep mc ms nL own cc) {y : MethodName} {bytes : ByteArray} {maxL' dep' index nA d' : Nat} {P : St → Prop} {b : Nat} {As : List Value} (k' n' k2 n2 : Nat) {st : List Value} (hM : tvOk σ tv → MV l G d' σ y bytes maxL' dep' k' n' (va_rf (some b) :: As) P) (hd : d' = d ∨ d = 0) (j : Nat) {C : String} {T : u_T} {N ci : Nat} {κ : Nat} (hj : tv[j]? = some (some b, κ)) (hκ : isO κ = true ∧ kCi κ = ci) (hcl : gCl[ci]? = some (C, T, N)) (hws : ∀ w ∈ wsV own index C y (gW y bytes maxL' none), w ∈ gTB) (hy : y.cls = C ∧ y.cls ≠ "java/lang/invoke/MethodHandle" ∧ y.cls ≠ "java/lang/invoke/VarHandle" ∧ (parseMethodDescriptor y.desc).map (fun d => d.parameters.length) = some nA) (hn : As.length = nA) (hst : st = As.reverse ++ va_rf (some b) :: rest) (hcat : (rest.map fun v => v.category).sum ≤ 8) (hdep : dep' + 1 ≤ dep) (hmx : maxL' ≤ 21) (hk : k2 + k' = k) (hkn : n2 + n' = n) (hdg : decode cc pc = .ok (.invokevirtual index, 3))
    (kk : ∀ (τ : St), P τ → ext σ τ → fr d' σ τ → V p l e R s m args below meth c Q G d σ0 mc ms nL τ k2 n2 tv (pc + 3) lv rest) : V p l e R s m args below meth c Q G d σ0 mc ms nL σ k n tv pc lv st := by
  intro H locs ls cells slots h1 h2 hG hl
  obtain ⟨hH, hS, hE, hF, hT⟩ := id hG
  have hts := X.2.2.2.2.1
  have hR := rmD_ok (k' := k') (n' := n') hdep hmx X.2.2.2.2.2.2.2.2.1 X.2.2.2.2.2.2.2.2.2.1
  have hf : cells + k' ≤ R.cells ∧ slots + n' ≤ R.slots := by
    have q1 := X.2.2.2.2.2.2.2.2.2.2.1
    have q2 := X.2.2.2.2.2.2.2.2.2.2.2
    constructor <;> omega
  have hpre : ∀ U : State, U.heap = H → s.WarmedH U.vm → va_Pc (va_rf (some b) :: As) (gP G σ) (va_rf (some b) :: As).toArray U := fun U hU hW9 => ⟨rfl, by rw [hU]; exact hH, GC_call X.2.2.2.2.2.1 hS hU hW9⟩
  exact va_callv (va_runV (As := As) (rest := rest) ⟨X.1, X.2.1, X.2.2.1, X.2.2.2.1, hts⟩ (hM hT) (cwV nA hts (gGood hws) rfl rfl rfl hy hR) ⟨gP_blind, gRec X.2.2.2.2.2.1 hH (hT.at j hj).1 hκ hcl, hpre⟩ rfl hn hl.1 hst (lv_room hcat) hdg hf) hS (fun q _ h => h) (fun q h => h) (fun u t H1 locs1 ht hvm hp hB hz hk9 hS1 => kk u hp hB.2.1 hB.2.2 H1 locs1 ls _ _ (by omega) (by omega) (gs_call hG hd hB ht hS1) hl)
theorem v_callVq (X : VC p l R s m args meth c G dep mc ms nL own cc) {y : MethodName} {bytes : ByteArray} {maxL' dep' index nA d' : Nat} {ret' : Option FieldType} {P : Option Nat → St → Prop} {κr : Nat} {b : Nat} {As : List Value} (k' n' k2 n2 : Nat) {st : List Value} (hM : tvOk σ tv → MR l G d' σ y bytes maxL' ret' dep' k' n' (va_rf (some b) :: As) κr P) (hd : d' = d ∨ d = 0) (hκr : κr ≠ 0) (j : Nat) {C : String} {T : u_T} {N ci : Nat} {κ : Nat} (hj : tv[j]? = some (some b, κ)) (hκ : isO κ = true ∧ kCi κ = ci) (hcl : gCl[ci]? = some (C, T, N)) (hws : ∀ w ∈ wsV own index C y (gW y bytes maxL' ret'), w ∈ gTB) (hy : y.cls = C ∧ y.cls ≠ "java/lang/invoke/MethodHandle" ∧ y.cls ≠ "java/lang/invoke/VarHandle" ∧ (parseMethodDescriptor y.desc).map (fun d => d.parameters.length) = some nA) (hn : As.length = nA) (hst : st = As.reverse ++ va_rf (some b) :: rest) (hcat : (rest.map fun v => v.category).sum ≤ 8) (hdep : dep' + 1 ≤ dep) (hmx : maxL' ≤ 21) (hk : k2 + k' = k) (hkn : n2 + n' = n) (hdg : decode cc pc = .ok (.invokevirtual index, 3))
    (kk : ∀ (r : Option Nat) (τ : St), P r τ → ext σ τ → fr d' σ τ → V p l e R s m args below meth c Q G d σ0 mc ms nL τ k2 n2 ((r, κr) :: tv) (pc + 3) lv (va_rf r :: rest)) : V p l e R s m args below meth c Q G d σ0 mc ms nL σ k n tv pc lv st := by
  intro H locs ls cells slots h1 h2 hG hl
  obtain ⟨hH, hS, hE, hF, hT⟩ := id hG
  have hts := X.2.2.2.2.1
  have hR := rmD_ok (k' := k') (n' := n') hdep hmx X.2.2.2.2.2.2.2.2.1 X.2.2.2.2.2.2.2.2.2.1
  have hf : cells + k' ≤ R.cells ∧ slots + n' ≤ R.slots := by
    have q1 := X.2.2.2.2.2.2.2.2.2.2.1
    have q2 := X.2.2.2.2.2.2.2.2.2.2.2
    constructor <;> omega
  have hpre : ∀ U : State, U.heap = H → s.WarmedH U.vm → va_Pc (va_rf (some b) :: As) (gP G σ) (va_rf (some b) :: As).toArray U := fun U hU hW9 => ⟨rfl, by rw [hU]; exact hH, GC_call X.2.2.2.2.2.1 hS hU hW9⟩
  exact va_callq (va_runV (As := As) (rest := rest) ⟨X.1, X.2.1, X.2.2.1, X.2.2.2.1, hts⟩ (hM hT) (cwV nA hts (gGood hws) rfl rfl rfl hy hR) ⟨gP_blind, gRec X.2.2.2.2.2.1 hH (hT.at j hj).1 hκ hcl, hpre⟩ rfl hn hl.1 hst (lv_room hcat) hdg hf) hS (fun q _ h => h) (fun q h => h) (fun r u t H1 locs1 ht hvm hp hB hz hk9 hS1 => kk r u hp.1 hB.2.1 hB.2.2 H1 locs1 ls _ _ (by omega) (by omega) (gs_cons (gs_call hG hd hB ht hS1) (fun b hb => ⟨hp.2 hκr b hb, hκr⟩)) hl)
theorem v_callSi (X : VC p l R s m args meth c G dep mc ms nL own cc) {y : MethodName} {bytes : ByteArray} {maxL' dep' index nA d' : Nat} {ret' : Option FieldType} {P : Int32 → St → Prop} {As : List Value} (k' n' k2 n2 : Nat) {st : List Value} (hM : tvOk σ tv → MI l G d' σ y bytes maxL' ret' dep' k' n' As P) (hd : d' = d ∨ d = 0) (hws : ∀ w ∈ wsS own index y (gW y bytes maxL' ret'), w ∈ gTB) (hy : y.cls = own ∧ y.cls ≠ "java/lang/invoke/MethodHandle" ∧ y.cls ≠ "java/lang/invoke/VarHandle" ∧ (parseMethodDescriptor y.desc).map (fun d => d.parameters.length) = some nA) (hn : As.length = nA) (hst : st = As.reverse ++ rest) (hcat : (rest.map fun v => v.category).sum ≤ 8) (hdep : dep' + 1 ≤ dep) (hmx : maxL' ≤ 21) (hk : k2 + k' = k) (hkn : n2 + n' = n) (hdg : decode cc pc = .ok (.invokestatic index, 3))
    (kk : ∀ (r : Int32) (τ : St), P r τ → ext σ τ → fr d' σ τ → V p l e R s m args below meth c Q G d σ0 mc ms nL τ k2 n2 tv (pc + 3) lv (.int r :: rest)) : V p l e R s m args below meth c Q G d σ0 mc ms nL σ k n tv pc lv st := by
  intro H locs ls cells slots h1 h2 hG hl
  obtain ⟨hH, hS, hE, hF, hT⟩ := id hG
  have hts := X.2.2.2.2.1
  have hR := rmD_ok (k' := k') (n' := n') hdep hmx X.2.2.2.2.2.2.2.2.1 X.2.2.2.2.2.2.2.2.2.1
  have hf : cells + k' ≤ R.cells ∧ slots + n' ≤ R.slots := by
    have q1 := X.2.2.2.2.2.2.2.2.2.2.1
    have q2 := X.2.2.2.2.2.2.2.2.2.2.2
    constructor <;> omega
  have hpre : ∀ U : State, U.heap = H → s.WarmedH U.vm → va_Pc As (gP G σ) (As).toArray U := fun U hU hW9 => ⟨rfl, by rw [hU]; exact hH, GC_call X.2.2.2.2.2.1 hS hU hW9⟩
  exact va_calli (va_runS (As := As) (rest := rest) ⟨X.1, X.2.1, X.2.2.1, X.2.2.2.1, hts⟩ (hM hT) (cwS nA hts (gGood hws) rfl rfl rfl hy hR) ⟨gP_blind, hpre⟩ rfl hn hl.1 hst (lv_room hcat) hdg hf) hS (fun q _ h => h) (fun q h => h) (fun r u t H1 locs1 ht hvm hp hB hz hk9 hS1 => kk r u hp hB.2.1 hB.2.2 H1 locs1 ls _ _ (by omega) (by omega) (gs_call hG hd hB ht hS1) hl)
theorem v_callSq (X : VC p l R s m args meth c G dep mc ms nL own cc) {y : MethodName} {bytes : ByteArray} {maxL' dep' index nA d' : Nat} {ret' : Option FieldType} {P : Option Nat → St → Prop} {κr : Nat} {As : List Value} (k' n' k2 n2 : Nat) {st : List Value} (hM : tvOk σ tv → MR l G d' σ y bytes maxL' ret' dep' k' n' As κr P) (hd : d' = d ∨ d = 0) (hκr : κr ≠ 0) (hws : ∀ w ∈ wsS own index y (gW y bytes maxL' ret'), w ∈ gTB) (hy : y.cls = own ∧ y.cls ≠ "java/lang/invoke/MethodHandle" ∧ y.cls ≠ "java/lang/invoke/VarHandle" ∧ (parseMethodDescriptor y.desc).map (fun d => d.parameters.length) = some nA) (hn : As.length = nA) (hst : st = As.reverse ++ rest) (hcat : (rest.map fun v => v.category).sum ≤ 8) (hdep : dep' + 1 ≤ dep) (hmx : maxL' ≤ 21) (hk : k2 + k' = k) (hkn : n2 + n' = n) (hdg : decode cc pc = .ok (.invokestatic index, 3))
    (kk : ∀ (r : Option Nat) (τ : St), P r τ → ext σ τ → fr d' σ τ → V p l e R s m args below meth c Q G d σ0 mc ms nL τ k2 n2 ((r, κr) :: tv) (pc + 3) lv (va_rf r :: rest)) : V p l e R s m args below meth c Q G d σ0 mc ms nL σ k n tv pc lv st := by
  intro H locs ls cells slots h1 h2 hG hl
  obtain ⟨hH, hS, hE, hF, hT⟩ := id hG
  have hts := X.2.2.2.2.1
  have hR := rmD_ok (k' := k') (n' := n') hdep hmx X.2.2.2.2.2.2.2.2.1 X.2.2.2.2.2.2.2.2.2.1
  have hf : cells + k' ≤ R.cells ∧ slots + n' ≤ R.slots := by
    have q1 := X.2.2.2.2.2.2.2.2.2.2.1
    have q2 := X.2.2.2.2.2.2.2.2.2.2.2
    constructor <;> omega
  have hpre : ∀ U : State, U.heap = H → s.WarmedH U.vm → va_Pc As (gP G σ) (As).toArray U := fun U hU hW9 => ⟨rfl, by rw [hU]; exact hH, GC_call X.2.2.2.2.2.1 hS hU hW9⟩
  exact va_callq (va_runS (As := As) (rest := rest) ⟨X.1, X.2.1, X.2.2.1, X.2.2.2.1, hts⟩ (hM hT) (cwS nA hts (gGood hws) rfl rfl rfl hy hR) ⟨gP_blind, hpre⟩ rfl hn hl.1 hst (lv_room hcat) hdg hf) hS (fun q _ h => h) (fun q h => h) (fun r u t H1 locs1 ht hvm hp hB hz hk9 hS1 => kk r u hp.1 hB.2.1 hB.2.2 H1 locs1 ls _ _ (by omega) (by omega) (gs_cons (gs_call hG hd hB ht hS1) (fun b hb => ⟨hp.2 hκr b hb, hκr⟩)) hl)
theorem v_callIv (X : VC p l R s m args meth c G dep mc ms nL own cc) {y : MethodName} {bytes : ByteArray} {maxL' dep' index nA d' : Nat} {P : St → Prop} {b : Nat} {As : List Value} (k' n' k2 n2 : Nat) {st : List Value} (hM : tvOk σ tv → MV l G d' σ y bytes maxL' dep' k' n' (va_rf (some b) :: As) P) (hd : d' = d ∨ d = 0) (hw5 : Cond.code y bytes maxL' none ∈ gTB) (hw4 : Cond.initialized y.cls ∈ gTB) (hw1 : Cond.methodLink own index y ∈ gTB) (hw2 : Cond.instanceMethod y ∈ gTB) (hyn : y.name = "<init>") (hy : y.cls ≠ "java/lang/invoke/MethodHandle" ∧ y.cls ≠ "java/lang/invoke/VarHandle" ∧ (parseMethodDescriptor y.desc).map (fun d => d.parameters.length) = some nA) (hn : As.length = nA) (hst : st = As.reverse ++ va_rf (some b) :: rest) (hcat : (rest.map fun v => v.category).sum ≤ 8) (hdep : dep' + 1 ≤ dep) (hmx : maxL' ≤ 21) (hk : k2 + k' = k) (hkn : n2 + n' = n) (hdg : decode cc pc = .ok (.invokespecial index, 3))
    (kk : ∀ (τ : St), P τ → ext σ τ → fr d' σ τ → V p l e R s m args below meth c Q G d σ0 mc ms nL τ k2 n2 tv (pc + 3) lv rest) : V p l e R s m args below meth c Q G d σ0 mc ms nL σ k n tv pc lv st := by
  intro H locs ls cells slots h1 h2 hG hl
  obtain ⟨hH, hS, hE, hF, hT⟩ := id hG
  have hts := X.2.2.2.2.1
  have hR := rmD_ok (k' := k') (n' := n') hdep hmx X.2.2.2.2.2.2.2.2.1 X.2.2.2.2.2.2.2.2.2.1
  have hf : cells + k' ≤ R.cells ∧ slots + n' ≤ R.slots := by
    have q1 := X.2.2.2.2.2.2.2.2.2.2.1
    have q2 := X.2.2.2.2.2.2.2.2.2.2.2
    constructor <;> omega
  have hpre : ∀ U : State, U.heap = H → s.WarmedH U.vm → va_Pc (va_rf (some b) :: As) (gP G σ) (va_rf (some b) :: As).toArray U := fun U hU hW9 => ⟨rfl, by rw [hU]; exact hH, GC_call X.2.2.2.2.2.1 hS hU hW9⟩
  exact va_callv (va_runI (As := As) (rest := rest) ⟨X.1, X.2.1, X.2.2.1, X.2.2.2.1, hts⟩ (hM hT) (cwI nA hts (gGood (gW_in hw5)) rfl rfl rfl (hts _ hw4) (hts _ hw1) (hts _ hw2) hyn hy hR) ⟨gP_blind, hpre⟩ rfl hn hl.1 hst (lv_room hcat) hdg hf) hS (fun q _ h => h) (fun q h => h) (fun u t H1 locs1 ht hvm hp hB hz hk9 hS1 => kk u hp hB.2.1 hB.2.2 H1 locs1 ls _ _ (by omega) (by omega) (gs_call hG hd hB ht hS1) hl)
theorem v_callNv (X : VC p l R s m args meth c G dep mc ms nL own cc) {y : MethodName} {bytes : ByteArray} {maxL' dep' index nA d' : Nat} {P : St → Prop} {b : Nat} {As : List Value} (k' n' k2 n2 : Nat) {st : List Value} (hM : tvOk σ tv → MV l G d' σ y bytes maxL' dep' k' n' (va_rf (some b) :: As) P) (hd : d' = d ∨ d = 0) {host : String} (hw5 : Cond.code y bytes maxL' none ∈ gTB) (hw4 : Cond.initialized y.cls ∈ gTB) (hw1 : Cond.methodLinkNest own index y host ∈ gNB) (hw2 : Cond.instanceMethod y ∈ gTB) (hyn : y.name = "<init>") (hy : y.cls ≠ "java/lang/invoke/MethodHandle" ∧ y.cls ≠ "java/lang/invoke/VarHandle" ∧ (parseMethodDescriptor y.desc).map (fun d => d.parameters.length) = some nA) (hn : As.length = nA) (hst : st = As.reverse ++ va_rf (some b) :: rest) (hcat : (rest.map fun v => v.category).sum ≤ 8) (hdep : dep' + 1 ≤ dep) (hmx : maxL' ≤ 21) (hk : k2 + k' = k) (hkn : n2 + n' = n) (hdg : decode cc pc = .ok (.invokespecial index, 3))
    (kk : ∀ (τ : St), P τ → ext σ τ → fr d' σ τ → V p l e R s m args below meth c Q G d σ0 mc ms nL τ k2 n2 tv (pc + 3) lv rest) : V p l e R s m args below meth c Q G d σ0 mc ms nL σ k n tv pc lv st := by
  intro H locs ls cells slots h1 h2 hG hl
  obtain ⟨hH, hS, hE, hF, hT⟩ := id hG
  have hts := X.2.2.2.2.1
  have hR := rmD_ok (k' := k') (n' := n') hdep hmx X.2.2.2.2.2.2.2.2.1 X.2.2.2.2.2.2.2.2.2.1
  have hf : cells + k' ≤ R.cells ∧ slots + n' ≤ R.slots := by
    have q1 := X.2.2.2.2.2.2.2.2.2.2.1
    have q2 := X.2.2.2.2.2.2.2.2.2.2.2
    constructor <;> omega
  have hpre : ∀ U : State, U.heap = H → s.WarmedH U.vm → va_Pc (va_rf (some b) :: As) (gP G σ) (va_rf (some b) :: As).toArray U := fun U hU hW9 => ⟨rfl, by rw [hU]; exact hH, GC_call X.2.2.2.2.2.1 hS hU hW9⟩
  exact va_callv (va_runIN (As := As) (rest := rest) ⟨X.1, X.2.1, X.2.2.1, X.2.2.2.1, hts⟩ (hM hT) ⟨va_cnB nA hts (gGood (gW_in hw5)) rfl rfl rfl (X.2.2.2.2.2.1.2.1 _ hw1) (hts _ hw4) hy hR, hyn, hts _ hw2⟩ ⟨gP_blind, hpre⟩ rfl hn hl.1 hst (lv_room hcat) hdg hf) hS (fun q _ h => h) (fun q h => h) (fun u t H1 locs1 ht hvm hp hB hz hk9 hS1 => kk u hp hB.2.1 hB.2.2 H1 locs1 ls _ _ (by omega) (by omega) (gs_call hG hd hB ht hS1) hl)
theorem v_callVu (X : VC p l R s m args meth c G dep mc ms nL own cc) {y : MethodName} {bytes : ByteArray} {maxL' dep' index nA d' : Nat} {ret' : Option FieldType} {P : Option Nat → St → Prop} {κr : Nat} {b : Nat} {As : List Value} (k' n' k2 n2 : Nat) {st : List Value} (hM : tvOk σ tv → MR l G d' σ y bytes maxL' ret' dep' k' n' (va_rf (some b) :: As) κr P) (hd : d' = d ∨ d = 0) (j : Nat) {C : String} {T : u_T} {N ci : Nat} {κ : Nat} (hj : tv[j]? = some (some b, κ)) (hκ : isO κ = true ∧ kCi κ = ci) (hcl : gCl[ci]? = some (C, T, N)) (hws : ∀ w ∈ wsV own index C y (gW y bytes maxL' ret'), w ∈ gTB) (hy : y.cls = C ∧ y.cls ≠ "java/lang/invoke/MethodHandle" ∧ y.cls ≠ "java/lang/invoke/VarHandle" ∧ (parseMethodDescriptor y.desc).map (fun d => d.parameters.length) = some nA) (hn : As.length = nA) (hst : st = As.reverse ++ va_rf (some b) :: rest) (hcat : (rest.map fun v => v.category).sum ≤ 8) (hdep : dep' + 1 ≤ dep) (hmx : maxL' ≤ 21) (hk : k2 + k' = k) (hkn : n2 + n' = n) (hdg : decode cc pc = .ok (.invokevirtual index, 3))
    (kk : ∀ (r : Option Nat) (τ : St), P r τ → ext σ τ → fr d' σ τ → V p l e R s m args below meth c Q G d σ0 mc ms nL τ k2 n2 tv (pc + 3) lv (va_rf r :: rest)) : V p l e R s m args below meth c Q G d σ0 mc ms nL σ k n tv pc lv st := by
  intro H locs ls cells slots h1 h2 hG hl
  obtain ⟨hH, hS, hE, hF, hT⟩ := id hG
  have hts := X.2.2.2.2.1
  have hR := rmD_ok (k' := k') (n' := n') hdep hmx X.2.2.2.2.2.2.2.2.1 X.2.2.2.2.2.2.2.2.2.1
  have hf : cells + k' ≤ R.cells ∧ slots + n' ≤ R.slots := by
    have q1 := X.2.2.2.2.2.2.2.2.2.2.1
    have q2 := X.2.2.2.2.2.2.2.2.2.2.2
    constructor <;> omega
  have hpre : ∀ U : State, U.heap = H → s.WarmedH U.vm → va_Pc (va_rf (some b) :: As) (gP G σ) (va_rf (some b) :: As).toArray U := fun U hU hW9 => ⟨rfl, by rw [hU]; exact hH, GC_call X.2.2.2.2.2.1 hS hU hW9⟩
  exact va_callq (va_runV (As := As) (rest := rest) ⟨X.1, X.2.1, X.2.2.1, X.2.2.2.1, hts⟩ (hM hT) (cwV nA hts (gGood hws) rfl rfl rfl hy hR) ⟨gP_blind, gRec X.2.2.2.2.2.1 hH (hT.at j hj).1 hκ hcl, hpre⟩ rfl hn hl.1 hst (lv_room hcat) hdg hf) hS (fun q _ h => h) (fun q h => h) (fun r u t H1 locs1 ht hvm hp hB hz hk9 hS1 => kk r u hp.1 hB.2.1 hB.2.2 H1 locs1 ls _ _ (by omega) (by omega) (gs_call hG hd hB ht hS1) hl)
theorem v_ldc (X : VC p l R s m args meth c G dep mc ms nL own cc) {index : Nat} (v : Int32) (hw : Cond.constant own index v ∈ gTB) (hdg : decode cc pc = .ok (.ldc index, 2))
    (kk : V p l e R s m args below meth c Q G d σ0 mc ms nL σ k n tv (pc + 2) lv (.int v :: rest)) : V p l e R s m args below meth c Q G d σ0 mc ms nL σ k n tv pc lv rest := fun H locs ls cells slots h1 h2 hG hl => lv_ldc X.1 X.2.1 X.2.2.2.1 (X.2.2.2.2.1 _ hw) hdg (kk H locs ls cells slots h1 h2 hG hl)
theorem v_mmin (X : VC p l R s m args meth c G dep mc ms nL own cc) {x y : Int32} {index : Nat} (hw1 : Cond.methodLink own index Lib.Math.min.name ∈ gTB) (hw2 : Cond.static Lib.Math.min.name ∈ gTB) (hw3 : Cond.initialized "java/lang/Math" ∈ gTB) (hw4 : Cond.code Lib.Math.min.name Lib.Math.min.code 2 (some .int) ∈ gTB) (hcat : (rest.map fun v => v.category).sum ≤ 8) (hdg : decode cc pc = .ok (.invokestatic index, 3))
    (kk : V p l e R s m args below meth c Q G d σ0 mc ms nL σ k n tv (pc + 3) lv (.int (if y < x then y else x) :: rest)) : V p l e R s m args below meth c Q G d σ0 mc ms nL σ k n tv pc lv (.int y :: .int x :: rest) := fun H locs ls cells slots h1 h2 hG hl => va_mmin X.1 X.2.1 (by rw [X.2.2.1]; exact hl.1.symm) X.2.2.2.1 (X.2.2.2.2.1 _ hw1) (X.2.2.2.2.1 _ hw2) (X.2.2.2.2.1 _ hw3) (X.2.2.2.2.1 _ hw4) (by have q1 := X.2.2.2.2.2.2.2.2.1; omega) (by have q2 := X.2.2.2.2.2.2.2.2.2.1; omega) (by rw [X.2.2.2.2.2.2.2.2.2.2.1]; omega) (by rw [X.2.2.2.2.2.2.2.2.2.2.2]; omega) hdg (kk H locs ls cells slots h1 h2 hG hl)
theorem v_mmax (X : VC p l R s m args meth c G dep mc ms nL own cc) {x y : Int32} {index : Nat} (hw1 : Cond.methodLink own index Lib.Math.max.name ∈ gTB) (hw2 : Cond.static Lib.Math.max.name ∈ gTB) (hw3 : Cond.initialized "java/lang/Math" ∈ gTB) (hw4 : Cond.code Lib.Math.max.name Lib.Math.max.code 2 (some .int) ∈ gTB) (hcat : (rest.map fun v => v.category).sum ≤ 8) (hdg : decode cc pc = .ok (.invokestatic index, 3))
    (kk : V p l e R s m args below meth c Q G d σ0 mc ms nL σ k n tv (pc + 3) lv (.int (if x < y then y else x) :: rest)) : V p l e R s m args below meth c Q G d σ0 mc ms nL σ k n tv pc lv (.int y :: .int x :: rest) := fun H locs ls cells slots h1 h2 hG hl => va_mmax X.1 X.2.1 (by rw [X.2.2.1]; exact hl.1.symm) X.2.2.2.1 (X.2.2.2.2.1 _ hw1) (X.2.2.2.2.1 _ hw2) (X.2.2.2.2.1 _ hw3) (X.2.2.2.2.1 _ hw4) (by have q1 := X.2.2.2.2.2.2.2.2.1; omega) (by have q2 := X.2.2.2.2.2.2.2.2.2.1; omega) (by rw [X.2.2.2.2.2.2.2.2.2.2.1]; omega) (by rw [X.2.2.2.2.2.2.2.2.2.2.2]; omega) hdg (kk H locs ls cells slots h1 h2 hG hl)
theorem szOk {z c : Nat} (h : z ≤ 60000000) (hc : c ≤ 8) : z * c ≤ 536870912 := Nat.le_trans (Nat.mul_le_mul h hc) (by decide)
theorem arcW : nativeFrameWords "java/lang/System" "arraycopy" 5 + 11 ≤ 400 := by decide
def fD (q : Bool × Nat) : Value := if q.1 = true then .null else .int 0
theorem fV_new {κ q : Nat} : (kF κ).map (fV (newO κ q σ) q) = (kF κ).map fD := by
  congr 1
  funext x
  unfold fV fD
  rw [sI_newO, sR_newO, u2r_at, u2r_at, if_pos rfl, if_pos rfl]
  rfl
theorem v_new (X : VC p l R s m args meth c G dep mc ms nL own cc) (C : String) (T : u_T) (N κ ci : Nat) (hκ : isO κ = true ∧ kCi κ = ci) (hcl : gCl[ci]? = some (C, T, N)) (hin : ∀ w ∈ u_ws C T N, w ∈ gTB) (ty0 : Nat → FieldType) (hty : ∀ k, k < N → parseFieldDescriptor (T k).2.2.1 = some (ty0 k)) {index : Nat} (hw1 : Cond.classLink own index C ∈ gTB) (hw2 : Cond.instantiable C N ∈ gTB) (hw3 : Cond.initialized C ∈ gTB) (hfs : ∀ j, j < N → defaultValue (ty0 j) = vp_V ((kF κ).map fD) j) (k2 n2 : Nat) (hk : k2 + 1 = k) (hkn : n2 + N = n) (hdg : decode cc pc = .ok (.new index, 3))
    (kk : ∀ (q : Nat) (τ : St), sK σ q = 0 → τ = newO κ q σ → V p l e R s m args below meth c Q G d σ0 mc ms nL τ k2 n2 ((some q, κ) :: tv) (pc + 3) lv (va_rf (some q) :: rest)) : V p l e R s m args below meth c Q G d σ0 mc ms nL σ k n tv pc lv rest := by
  intro H locs ls cells slots h1 h2 hG hl
  obtain ⟨hH, hS, hE, hF, hT⟩ := id hG
  refine va_new (ci := ci) (fs := (kF κ).map fD) X.1 X.2.1 X.2.2.2.2.1 hin ty0 hty X.2.2.2.1 (X.2.2.2.2.1 _ hw1) (X.2.2.2.2.1 _ hw2) (X.2.2.2.2.1 _ hw3) X.2.2.2.2.2.1.1 (wsH_P hH) (wsH_D hH) hS (gA X) hcl hfs (by rw [X.2.2.2.2.2.2.2.2.2.2.1]; omega) (by rw [X.2.2.2.2.2.2.2.2.2.2.2]; omega) hdg fun q H1 hP hD hS1 => ?_
  obtain ⟨hq, hA⟩ := HP_fresh hH (gLt X).1 hD
  have hκ0 := (isO_lt hκ.1).2
  have hk1 : sK (newO κ q σ) q = κ := by rw [sK_newO, u1_at, if_pos rfl]
  have hel : kElem κ = 0 := by
    have := isO_lt hκ.1
    unfold kElem
    split <;> first | rfl | exact absurd hκ.1 (by decide)
  refine kk q _ hq rfl H1 locs ls _ _ (by omega) (by omega) (gs_new X hG hq hκ0 (WT_new (κ := κ) hH.2 hq hA (gLt X).1 (sK_newO _ _ _) (fun f a b hb => ?_) (fun a j b hb => ⟨Or.inr hel, hb⟩) rfl (fun a _ => rfl)) (sK_newO _ _ _) (fun b hb => cEq_newO _ _ σ hb) (by rw [← fV_new (σ := σ) (κ := κ) (q := q)]; exact cE_o hk1 hκ) hP hS1) hl
  rw [sR_newO, u2r_at] at hb
  by_cases e : a = q
  · rw [if_pos e] at hb; cases hb
  · rw [if_neg e] at hb; exact hb
theorem WT_newA {κ q n' : Nat} (h : WT G σ) (hq : sK σ q = 0) (hA : GA G q) (hlt : G.2.2.1 < G.2.2.2.1) : WT G (newA κ q n' σ) := by
  refine WT_new (κ := κ) h hq hA hlt (sK_newA _ _ _ _) (fun f a b hb => hb) (fun a j b hb => ?_) rfl (fun a ha => ?_)
  · rw [sQ_newA, u2l_at] at hb
    by_cases e : a = q
    · rw [if_pos e] at hb; cases hb
    · rw [if_neg e] at hb; exact ⟨Or.inl e, hb⟩
  · rw [sL_newA, u1_at, if_neg ha]
theorem newA_at {κ q n' : Nat} : sK (newA κ q n' σ) q = κ ∧ sL (newA κ q n' σ) q = n' ∧ sA (newA κ q n' σ) q = (fun _ => 0) ∧ sQ (newA κ q n' σ) q = (fun _ => none) := by
  refine ⟨?_, ?_, ?_, ?_⟩
  · rw [sK_newA, u1_at, if_pos rfl]
  · rw [sL_newA, u1_at, if_pos rfl]
  · funext j; rw [sA_newA, u2l_at, if_pos rfl]
  · funext j; rw [sQ_newA, u2l_at, if_pos rfl]
theorem tysLast {tys : List (ClassId × FieldType)} {D : va_G} {cl : List vw_C} {cA : ClassId} {ty : FieldType} (h : va_K D cl (tys ++ [(cA, ty)]) s) : va_RA s cA ty := (h.2 tys.length (cA, ty) (by rw [List.getElem?_append_right (Nat.le_refl _), Nat.sub_self]; rfl)).2
theorem va_RA_eq {cA cB : ClassId} {ty : FieldType} (h1 : va_RA s cA ty) (h2 : va_RA s cB ty) : cA = cB := by
  cases ty with
  | object C =>
    obtain ⟨_, _, _, _, _, e1⟩ := h1
    obtain ⟨_, _, _, _, _, e2⟩ := h2
    exact Option.some.inj (e1.symm.trans e2)
  | _ => exact Option.some.inj ((show s.vm.findClass _ = some cA from h1).symm.trans h2)
theorem v_newI (X : VC p l R s m args meth c G dep mc ms nL own cc) {z : Int32} (κ : Nat) (hκ : κ = 20 ∨ κ = 21) (hw : Cond.arrayClass .int ∈ gTB) (hz : ¬ z < 0) (hb : z.toNatClampNeg ≤ 60000000) (k2 n2 : Nat) (hk : k2 + 1 = k) (hkn : n2 + z.toNatClampNeg = n) (hdg : decode cc pc = .ok (.newarray .int, 2))
    (kk : ∀ (q : Nat) (τ : St), sK σ q = 0 → τ = newA κ q z.toNatClampNeg σ → V p l e R s m args below meth c Q G d σ0 mc ms nL τ k2 n2 ((some q, κ) :: tv) (pc + 2) lv (va_rf (some q) :: rest)) : V p l e R s m args below meth c Q G d σ0 mc ms nL σ k n tv pc lv (.int z :: rest) := by
  intro H locs ls cells slots h1 h2 hG hl
  obtain ⟨hH, hS, hE, hF, hT⟩ := id hG
  refine va_newa X.1 X.2.1 (atype := .int) (X.2.2.2.2.1 _ hw) (ty := .int) rfl X.2.2.2.2.2.1.1 (wsH_P hH) (wsH_D hH) hS (gA X) (N' := z.toNatClampNeg) (a0 := (z.toNatClampNeg, .inl (fun _ => 0))) (fun cA => rfl) hz rfl (szOk hb (by decide : componentBytes .int ≤ 8)) (by rw [X.2.2.2.2.2.2.2.2.2.2.1]; omega) (by rw [X.2.2.2.2.2.2.2.2.2.2.2]; omega) hdg fun q cA H1 hK2 hP hD hS1 => ?_
  have hcA : cA = G.2.1 0 := va_RA_eq (tysLast hK2) ((X.2.2.2.2.2.1.1).2 0 _ rfl).2
  subst hcA
  obtain ⟨hq, hA⟩ := HP_fresh hH (gLt X).1 hD
  obtain ⟨g1, g2, g3, g4⟩ := newA_at (σ := σ) (κ := κ) (q := q) (n' := z.toNatClampNeg)
  exact kk q _ hq rfl H1 locs ls _ _ (by omega) (by omega) (gs_new X hG hq (by omega) (WT_newA hH.2 hq hA (gLt X).1) (sK_newA _ _ _ _) (fun b hb => cEq_newA _ _ _ σ hb) (by rw [cE_a g1 hκ]; simp only [g2, g3, g4]) hP hS1) hl
theorem v_newZ (X : VC p l R s m args meth c G dep mc ms nL own cc) {z : Int32} (hw : Cond.arrayClass .boolean ∈ gTB) (hz : ¬ z < 0) (hb : z.toNatClampNeg ≤ 60000000) (k2 n2 : Nat) (hk : k2 + 1 = k) (hkn : n2 + z.toNatClampNeg = n) (hdg : decode cc pc = .ok (.newarray .boolean, 2))
    (kk : ∀ (q : Nat) (τ : St), sK σ q = 0 → τ = newA 22 q z.toNatClampNeg σ → V p l e R s m args below meth c Q G d σ0 mc ms nL τ k2 n2 ((some q, 22) :: tv) (pc + 2) lv (va_rf (some q) :: rest)) : V p l e R s m args below meth c Q G d σ0 mc ms nL σ k n tv pc lv (.int z :: rest) := by
  intro H locs ls cells slots h1 h2 hG hl
  obtain ⟨hH, hS, hE, hF, hT⟩ := id hG
  refine va_newa X.1 X.2.1 (atype := .boolean) (X.2.2.2.2.1 _ hw) (ty := .boolean) rfl X.2.2.2.2.2.1.1 (wsH_P hH) (wsH_D hH) hS (gA X) (N' := z.toNatClampNeg) (a0 := (z.toNatClampNeg, .inl (fun _ => 0))) (fun cA => rfl) hz rfl (szOk hb (by decide : componentBytes .boolean ≤ 8)) (by rw [X.2.2.2.2.2.2.2.2.2.2.1]; omega) (by rw [X.2.2.2.2.2.2.2.2.2.2.2]; omega) hdg fun q cA H1 hK2 hP hD hS1 => ?_
  have hcA : cA = G.2.1 1 := va_RA_eq (tysLast hK2) ((X.2.2.2.2.2.1.1).2 1 _ rfl).2
  subst hcA
  obtain ⟨hq, hA⟩ := HP_fresh hH (gLt X).1 hD
  obtain ⟨g1, g2, g3, g4⟩ := newA_at (σ := σ) (κ := 22) (q := q) (n' := z.toNatClampNeg)
  exact kk q _ hq rfl H1 locs ls _ _ (by omega) (by omega) (gs_new X hG hq (by decide) (WT_newA hH.2 hq hA (gLt X).1) (sK_newA _ _ _ _) (fun b hb => cEq_newA _ _ _ σ hb) (by rw [cE_z g1]; simp only [g2, g3, g4]) hP hS1) hl
theorem v_newJ (X : VC p l R s m args meth c G dep mc ms nL own cc) {z : Int32} (hw : Cond.arrayClass .long ∈ gTB) (hz : ¬ z < 0) (hb : z.toNatClampNeg ≤ 60000000) (k2 n2 : Nat) (hk : k2 + 1 = k) (hkn : n2 + z.toNatClampNeg = n) (hdg : decode cc pc = .ok (.newarray .long, 2))
    (kk : ∀ (q : Nat) (τ : St), sK σ q = 0 → τ = newA 23 q z.toNatClampNeg σ → V p l e R s m args below meth c Q G d σ0 mc ms nL τ k2 n2 ((some q, 23) :: tv) (pc + 2) lv (va_rf (some q) :: rest)) : V p l e R s m args below meth c Q G d σ0 mc ms nL σ k n tv pc lv (.int z :: rest) := by
  intro H locs ls cells slots h1 h2 hG hl
  obtain ⟨hH, hS, hE, hF, hT⟩ := id hG
  refine va_newa X.1 X.2.1 (atype := .long) (X.2.2.2.2.1 _ hw) (ty := .long) rfl X.2.2.2.2.2.1.1 (wsH_P hH) (wsH_D hH) hS (gA X) (N' := z.toNatClampNeg) (a0 := (z.toNatClampNeg, .inr (.inl (fun _ => 0)))) (fun cA => rfl) hz rfl (szOk hb (by decide : componentBytes .long ≤ 8)) (by rw [X.2.2.2.2.2.2.2.2.2.2.1]; omega) (by rw [X.2.2.2.2.2.2.2.2.2.2.2]; omega) hdg fun q cA H1 hK2 hP hD hS1 => ?_
  have hcA : cA = G.2.1 2 := va_RA_eq (tysLast hK2) ((X.2.2.2.2.2.1.1).2 2 _ rfl).2
  subst hcA
  obtain ⟨hq, hA⟩ := HP_fresh hH (gLt X).1 hD
  obtain ⟨g1, g2, g3, g4⟩ := newA_at (σ := σ) (κ := 23) (q := q) (n' := z.toNatClampNeg)
  exact kk q _ hq rfl H1 locs ls _ _ (by omega) (by omega) (gs_new X hG hq (by decide) (WT_newA hH.2 hq hA (gLt X).1) (sK_newA _ _ _ _) (fun b hb => cEq_newA _ _ _ σ hb) (by rw [cE_j g1]; simp only [g2, g3, g4]; rfl) hP hS1) hl
theorem v_newQ (X : VC p l R s m args meth c G dep mc ms nL own cc) {z : Int32} {index : Nat} {C : String} (κ : Nat) (hκ : isQ κ = true) (ht : (gTys G.2.1)[kCa κ]? = some (G.2.1 (kCa κ), .object C)) (hC : C ∈ gAO) (hw : Cond.classLink own index C ∈ gTB) (hz : ¬ z < 0) (hb : z.toNatClampNeg ≤ 60000000) (k2 n2 : Nat) (hk : k2 + 1 = k) (hkn : n2 + z.toNatClampNeg = n) (hdg : decode cc pc = .ok (.anewarray index, 3))
    (kk : ∀ (q : Nat) (τ : St), sK σ q = 0 → τ = newA κ q z.toNatClampNeg σ → V p l e R s m args below meth c Q G d σ0 mc ms nL τ k2 n2 ((some q, κ) :: tv) (pc + 3) lv (va_rf (some q) :: rest)) : V p l e R s m args below meth c Q G d σ0 mc ms nL σ k n tv pc lv (.int z :: rest) := by
  intro H locs ls cells slots h1 h2 hG hl
  obtain ⟨hH, hS, hE, hF, hT⟩ := id hG
  refine va_newq X.1 X.2.1 X.2.2.2.1 (X.2.2.2.2.1 _ hw) (X.2.2.2.2.2.1.2.2.1.1 _ hC) X.2.2.2.2.2.1.1 (wsH_P hH) (wsH_D hH) hS (gA X) (N' := z.toNatClampNeg) hz rfl (by omega) (by rw [X.2.2.2.2.2.2.2.2.2.2.1]; omega) (by rw [X.2.2.2.2.2.2.2.2.2.2.2]; omega) hdg fun q cA H1 hK2 hP hD hS1 => ?_
  have hcA : cA = G.2.1 (kCa κ) := va_RA_eq (tysLast hK2) ((X.2.2.2.2.2.1.1).2 _ _ ht).2
  subst hcA
  obtain ⟨hq, hA⟩ := HP_fresh hH (gLt X).1 hD
  obtain ⟨g1, g2, g3, g4⟩ := newA_at (σ := σ) (κ := κ) (q := q) (n' := z.toNatClampNeg)
  exact kk q _ hq rfl H1 locs ls _ _ (by omega) (by omega) (gs_new X hG hq (by rintro rfl; exact absurd hκ (by decide)) (WT_newA hH.2 hq hA (gLt X).1) (sK_newA _ _ _ _) (fun b hb => cEq_newA _ _ _ σ hb) (by rw [cE_q g1 hκ]; simp only [g2, g4]) hP hS1) hl
theorem upd_q {a j : Nat} {v : Option Nat} : va_up (sQ σ a) j v = sQ (setQ a j v σ) a := by
  funext q
  rw [sQ_setQ, u2_at]
  by_cases hq : q = j
  · simp [va_up, hq]
  · simp [va_up, hq]
theorem isQ_nd {H : Heap} {i : Int32} {a : Nat} (hH : HP G σ H) (hi : vp_in i (sL σ a)) : a ≠ G.2.2.1 := fun e => hi (Or.inr (by rw [e, hH.2.2.2.2.2.2.1]; exact Nat.zero_le _))
theorem v_aast (X : VC p l R s m args meth c G dep mc ms nL own cc) {i : Int32} {a v : Nat} (j jv : Nat) {κ κ' ci : Nat} {r : vw_C} (hj : tv[j]? = some (some a, κ)) (hjv : tv[jv]? = some (some v, κ')) (hκ : isQ κ = true ∧ okE κ κ') (ht : (gTys G.2.1)[kCa κ]? = some (G.2.1 (kCa κ), .object r.1)) (hκ' : isO κ' = true ∧ kCi κ' = ci) (hcl : gCl[ci]? = some r) (hd : kSide κ = d ∨ d = 0) (hi : vp_in i (sL σ a)) (hdg : decode cc pc = .ok (.aastore, 1))
    (kk : ∀ τ : St, τ = setQ a i.toNatClampNeg (some v) σ → V p l e R s m args below meth c Q G d σ0 mc ms nL τ k n tv (pc + 1) lv rest) : V p l e R s m args below meth c Q G d σ0 mc ms nL σ k n tv pc lv (va_rf (some v) :: .int i :: va_rf (some a) :: rest) := by
  intro H locs ls cells slots h1 h2 hG hl
  obtain ⟨hH, hS, hE, hF, hT⟩ := id hG
  have hk := (hT.at j hj).1
  have hkv := (hT.at jv hjv).1
  have hk2 : sK (setQ a i.toNatClampNeg (some v) σ) a = κ := hk
  obtain ⟨iw, hw⟩ := wsH_in hH (cE_q hk hκ.1) (isQ_nd hH hi)
  obtain ⟨iv, hv⟩ := wsH_in hH (cE_o hkv hκ') (fun q => isO_nd hκ'.1 (by rw [← hkv, q]; exact hH.2.2.2.2.2.2.2))
  refine va_astq X.1 X.2.1 X.2.2.2.2.2.1.1 (wsH_P hH) (wsH_D hH) hS iw _ iv ci hw ht hv hcl hi hdg fun H1 locs1 hP hD hS1 => ?_
  rw [upd_q] at hP
  exact kk _ rfl H1 _ ls cells slots h1 h2 (gs_set X hG (WT_setQ hH.2 fun b hb => by cases hb; rw [hk, hkv]; exact hκ.2) (sK_setQ _ _ _ σ) (by rw [hk]; exact hd) (fun b hb => cEq_setQ _ _ _ σ hb) hw (cE_q hk2 hκ.1) hP hS1) hl
theorem isE_cl {κ : Nat} (h : isE κ = true) : ∃ (ci : Nat) (r : vw_C), (isO κ = true ∧ kCi κ = ci) ∧ gCl[ci]? = some r ∧ Cond.castable r.1 "java/lang/Object" ∈ gNB := by
  unfold isE at h
  simp at h
  rcases h with rfl | rfl | rfl | rfl | rfl | rfl
  · exact ⟨2, _, ⟨rfl, rfl⟩, rfl, by simp [gNB]⟩
  · exact ⟨4, _, ⟨rfl, rfl⟩, rfl, by simp [gNB]⟩
  · exact ⟨5, _, ⟨rfl, rfl⟩, rfl, by simp [gNB]⟩
  · exact ⟨6, _, ⟨rfl, rfl⟩, rfl, by simp [gNB]⟩
  · exact ⟨7, _, ⟨rfl, rfl⟩, rfl, by simp [gNB]⟩
  · exact ⟨10, _, ⟨rfl, rfl⟩, rfl, by simp [gNB]⟩
theorem v_aastO (X : VC p l R s m args meth c G dep mc ms nL own cc) {i : Int32} {a v : Nat} (j jv : Nat) {κ' : Nat} (hj : tv[j]? = some (some a, 50)) (hjv : tv[jv]? = some (some v, κ')) (hE' : isE κ' = true) (hd : 1 = d ∨ d = 0) (hi : vp_in i (sL σ a)) (hdg : decode cc pc = .ok (.aastore, 1))
    (kk : ∀ τ : St, τ = setQ a i.toNatClampNeg (some v) σ → V p l e R s m args below meth c Q G d σ0 mc ms nL τ k n tv (pc + 1) lv rest) : V p l e R s m args below meth c Q G d σ0 mc ms nL σ k n tv pc lv (va_rf (some v) :: .int i :: va_rf (some a) :: rest) := by
  intro H locs ls cells slots h1 h2 hG hl
  obtain ⟨hH, hS, hE, hF, hT⟩ := id hG
  have hk := (hT.at j hj).1
  have hkv := (hT.at jv hjv).1
  have hk2 : sK (setQ a i.toNatClampNeg (some v) σ) a = 50 := hk
  obtain ⟨ci, r, hκ', hcl, hnb⟩ := isE_cl hE'
  obtain ⟨iw, hw⟩ := wsH_in hH (cE_q hk rfl) (isQ_nd hH hi)
  obtain ⟨iv, hv⟩ := wsH_in hH (cE_o hkv hκ') (fun q => isO_nd hκ'.1 (by rw [← hkv, q]; exact hH.2.2.2.2.2.2.2))
  refine va_astqO X.1 X.2.1 X.2.2.2.2.2.1.1 (wsH_P hH) (wsH_D hH) hS iw 6 iv ci hw rfl (X.2.2.2.2.2.1.2.1 _ hnb) hv hcl hi hdg fun H1 locs1 hP hD hS1 => ?_
  rw [upd_q] at hP
  exact kk _ rfl H1 _ ls cells slots h1 h2 (gs_set X hG (WT_setQ hH.2 fun b hb => by cases hb; rw [hk, hkv]; exact hE') (sK_setQ _ _ _ σ) (by rw [hk]; exact hd) (fun b hb => cEq_setQ _ _ _ σ hb) hw (cE_q hk2 rfl) hP hS1) hl
theorem v_aastN (X : VC p l R s m args meth c G dep mc ms nL own cc) {i : Int32} {a : Nat} (j : Nat) (hj : tv[j]? = some (some a, 50)) (hd : 1 = d ∨ d = 0) (hi : vp_in i (sL σ a)) (hdg : decode cc pc = .ok (.aastore, 1))
    (kk : ∀ τ : St, τ = setQ a i.toNatClampNeg none σ → V p l e R s m args below meth c Q G d σ0 mc ms nL τ k n tv (pc + 1) lv rest) : V p l e R s m args below meth c Q G d σ0 mc ms nL σ k n tv pc lv (va_rf none :: .int i :: va_rf (some a) :: rest) := by
  intro H locs ls cells slots h1 h2 hG hl
  obtain ⟨hH, hS, hE, hF, hT⟩ := id hG
  have hk := (hT.at j hj).1
  have hk2 : sK (setQ a i.toNatClampNeg none σ) a = 50 := hk
  obtain ⟨iw, hw⟩ := wsH_in hH (cE_q hk rfl) (isQ_nd hH hi)
  refine va_astqN X.1 X.2.1 X.2.2.2.2.2.1.1 (wsH_P hH) (wsH_D hH) hS iw 6 hw rfl hi hdg fun H1 locs1 hP hD hS1 => ?_
  rw [upd_q] at hP
  exact kk _ rfl H1 _ ls cells slots h1 h2 (gs_set X hG (WT_setQ hH.2 fun b hb => by cases hb) (sK_setQ _ _ _ σ) (by rw [hk]; exact hd) (fun b hb => cEq_setQ _ _ _ σ hb) hw (cE_q hk2 rfl) hP hS1) hl
theorem castable_Any {E r : String} {H : Heap} {a : Nat} {cell : Cell} (hc : va_Nw (.castable r E) s) (h : H[a]? = some cell ∧ cell.vm.isStatics = false ∧ s.vm.findClass r = some cell.cls) : va_Any E s H a := by
  obtain ⟨h1, h2, h3⟩ := h
  obtain ⟨kC, hkC, -⟩ := Vm.findClass_spec h3
  obtain ⟨c0, t0, f1, f2, f3⟩ := Cond.castable_spec (va_Nw.use (A := #[]) rfl hc)
  refine ⟨cell, h1, h2, ⟨kC, hkC⟩, fun comp h => ?_⟩
  cases Option.some.inj (f1.symm.trans h3)
  cases Option.some.inj (f2.symm.trans h)
  exact f3
theorem v_cpyQ (X : VC p l R s m args meth c G dep mc ms nL own cc) {sp dp z : Int32} {a0 a : Nat} (j0 j : Nat) (hj0 : tv[j0]? = some (some a0, 50)) (hj : tv[j]? = some (some a, 50)) (hd : 1 = d ∨ d = 0) (b1 : ¬ sp < 0) (b2 : ¬ dp < 0) (b3 : ¬ z < 0) (b4 : sp.toNatClampNeg + z.toNatClampNeg ≤ sL σ a0) (b5 : dp.toNatClampNeg + z.toNatClampNeg ≤ sL σ a) (hne0 : 0 < sL σ a0) (hne : 0 < sL σ a) {index : Nat} (hw1 : Cond.methodLink own index arraycopyName ∈ gTB) (hw2 : Cond.native arraycopyName ∈ gTB) (hw3 : Cond.static arraycopyName ∈ gTB) (hw4 : Cond.initialized "java/lang/System" ∈ gTB) (hcat : (rest.map fun v => v.category).sum ≤ 8) (hdg : decode cc pc = .ok (.invokestatic index, 3))
    (kk : ∀ τ : St, τ = cpyQ a (va_cpy (sQ σ a0) (sQ σ a) sp.toNatClampNeg dp.toNatClampNeg z.toNatClampNeg) σ → V p l e R s m args below meth c Q G d σ0 mc ms nL τ k n tv (pc + 3) lv rest) : V p l e R s m args below meth c Q G d σ0 mc ms nL σ k n tv pc lv (.int z :: .int dp :: va_rf (some a) :: .int sp :: va_rf (some a0) :: rest) := by
  intro H locs ls cells slots h1 h2 hG hl
  obtain ⟨hH, hS, hE, hF, hT⟩ := id hG
  have hk := (hT.at j hj).1
  have hk0 := (hT.at j0 hj0).1
  have hnd : ∀ b, 0 < sL σ b → b ≠ G.2.2.1 := fun b hb e => by rw [e, hH.2.2.2.2.2.2.1] at hb; omega
  have hany : ∀ (x : Nat) (y : Nat), sQ σ a0 x = some y → va_Any "java/lang/Object" s H y := fun x y hy => by
    have h9 := hH.2.2.2.1 a0 x y hy
    rw [hk0] at h9
    have h9 : isE (sK σ y) = true := h9
    obtain ⟨ci, r, hκ', hcl, hnb⟩ := isE_cl h9
    obtain ⟨C, T, N⟩ := r
    obtain ⟨cell, hcell⟩ := gRec X.2.2.2.2.2.1 hH rfl hκ' hcl
    exact castable_Any (X.2.2.2.2.2.1.2.1 _ hnb) hcell
  have hwt : WT G (cpyQ a (va_cpy (sQ σ a0) (sQ σ a) sp.toNatClampNeg dp.toNatClampNeg z.toNatClampNeg) σ) := WT_cpyQ hH.2 fun q b hb => by
    unfold va_cpy at hb
    split at hb
    · have h9 := hH.2.2.2.1 a0 _ b hb
      rw [hk0] at h9
      rw [hk]; exact h9
    · exact hH.2.2.2.1 a _ b hb
  obtain ⟨i0, hw0⟩ := wsH_in hH (cE_q hk0 rfl) (hnd a0 hne0)
  obtain ⟨iw, hw⟩ := wsH_in hH (cE_q hk rfl) (hnd a hne)
  refine va_copyM X.1 X.2.1 (by rw [X.2.2.1]; exact hl.1.symm) X.2.2.2.1 (X.2.2.2.2.1 _ hw1) (X.2.2.2.2.1 _ hw2) (X.2.2.2.2.1 _ hw3) (X.2.2.2.2.1 _ hw4) X.2.2.2.2.2.1.1 (wsH_P hH) (wsH_D hH) hS i0 iw 6 6 hw0 hw rfl rfl b1 b2 b3 b4 b5 (fun x _ y hy => hany _ y hy) (by have q1 := X.2.2.2.2.2.2.2.2.1; omega) (by have q2 := X.2.2.2.2.2.2.2.2.2.1; have q3 := arcW; omega) hdg fun H1 locs1 hP hD hS1 => ?_
  exact kk _ rfl H1 _ ls cells slots h1 h2 (gs_set X hG hwt (sK_cpyQ _ _ σ) (by rw [hk]; exact hd) (fun b hb => cEq_cpyQ _ _ σ hb) hw (by rw [cE_q (show sK (cpyQ a _ σ) a = 50 from hk) rfl]; have e9 : sQ (cpyQ a (va_cpy (sQ σ a0) (sQ σ a) sp.toNatClampNeg dp.toNatClampNeg z.toNatClampNeg) σ) a = va_cpy (sQ σ a0) (sQ σ a) sp.toNatClampNeg dp.toNatClampNeg z.toNatClampNeg := (by funext j; rw [sQ_cpyQ, u2l_at, if_pos rfl]); rw [e9, sL_cpyQ]) hP hS1) hl
theorem v_cpyA (X : VC p l R s m args meth c G dep mc ms nL own cc) {sp dp z : Int32} {a0 a : Nat} (j0 j : Nat) (hj0 : tv[j0]? = some (some a0, 20)) (hj : tv[j]? = some (some a, 20)) (hd : 1 = d ∨ d = 0) (b1 : ¬ sp < 0) (b2 : ¬ dp < 0) (b3 : ¬ z < 0) (b4 : sp.toNatClampNeg + z.toNatClampNeg ≤ sL σ a0) (b5 : dp.toNatClampNeg + z.toNatClampNeg ≤ sL σ a) {index : Nat} (hw1 : Cond.methodLink own index arraycopyName ∈ gTB) (hw2 : Cond.native arraycopyName ∈ gTB) (hw3 : Cond.static arraycopyName ∈ gTB) (hw4 : Cond.initialized "java/lang/System" ∈ gTB) (hcat : (rest.map fun v => v.category).sum ≤ 8) (hdg : decode cc pc = .ok (.invokestatic index, 3))
    (kk : ∀ τ : St, τ = cpyA a (va_cpy (sA σ a0) (sA σ a) sp.toNatClampNeg dp.toNatClampNeg z.toNatClampNeg) σ → V p l e R s m args below meth c Q G d σ0 mc ms nL τ k n tv (pc + 3) lv rest) : V p l e R s m args below meth c Q G d σ0 mc ms nL σ k n tv pc lv (.int z :: .int dp :: va_rf (some a) :: .int sp :: va_rf (some a0) :: rest) := by
  intro H locs ls cells slots h1 h2 hG hl
  obtain ⟨hH, hS, hE, hF, hT⟩ := id hG
  have hk := (hT.at j hj).1
  have hk0 := (hT.at j0 hj0).1
  have hnd : ∀ b, sK σ b = 20 → b ≠ G.2.2.1 := fun b hb e => by have := hH.2.2.2.2.2.2.2; rw [← e, hb] at this; omega
  obtain ⟨i0, hw0⟩ := wsH_in hH (cE_a hk0 (Or.inl rfl)) (hnd a0 hk0)
  obtain ⟨iw, hw⟩ := wsH_in hH (cE_a hk (Or.inl rfl)) (hnd a hk)
  refine va_copyi X.1 X.2.1 (by rw [X.2.2.1]; exact hl.1.symm) X.2.2.2.1 (X.2.2.2.2.1 _ hw1) (X.2.2.2.2.1 _ hw2) (X.2.2.2.2.1 _ hw3) (X.2.2.2.2.1 _ hw4) X.2.2.2.2.2.1.1 (wsH_P hH) (wsH_D hH) hS i0 iw 0 0 hw0 hw rfl rfl rfl b1 b2 b3 b4 b5 (fun x _ => rfl) (by have q1 := X.2.2.2.2.2.2.2.2.1; omega) (by have q2 := X.2.2.2.2.2.2.2.2.2.1; have q3 := arcW; omega) hdg fun H1 locs1 hP hD hS1 => ?_
  exact kk _ rfl H1 _ ls cells slots h1 h2 (gs_set X hG hH.2 (sK_cpyA _ _ σ) (by rw [hk]; exact hd) (fun b hb => cEq_cpyA _ _ σ hb) hw (by rw [cE_a (show sK (cpyA a _ σ) a = 20 from hk) (Or.inl rfl)]; have e9 : sA (cpyA a (va_cpy (sA σ a0) (sA σ a) sp.toNatClampNeg dp.toNatClampNeg z.toNatClampNeg) σ) a = va_cpy (sA σ a0) (sA σ a) sp.toNatClampNeg dp.toNatClampNeg z.toNatClampNeg := (by funext j; rw [sA_cpyA, u2l_at, if_pos rfl]); rw [e9, sL_cpyA]) hP hS1) hl
theorem v_gets (X : VC p l R s m args meth c G dep mc ms nL own cc) {index : Nat} {ref : String} (hw : Cond.fieldLink own index "java/util/ArrayList" "DEFAULTCAPACITY_EMPTY_ELEMENTDATA" "[Ljava/lang/Object;" ∈ gTB) (hdg : decode cc pc = .ok (.getstatic index, 3))
    (kk : ∀ a : Nat, (∀ b, sC σ b % 2 = 1 ↔ b = a) → V p l e R s m args below meth c Q G d σ0 mc ms nL σ k n ((some a, 50) :: tv) (pc + 3) lv (va_rf (some a) :: rest)) : V p l e R s m args below meth c Q G d σ0 mc ms nL σ k n tv pc lv rest := by
  intro H locs ls cells slots h1 h2 hG hl
  obtain ⟨hH, hS, hE, hF, hT⟩ := id hG
  exact va_gets X.1 X.2.1 X.2.2.2.2.2.1.2.2.2.2.2.1 hS X.2.2.2.1 (X.2.2.2.2.1 _ hw) (fun _ h => h) hdg (kk _ hH.2.2.2.2.1 H locs ls cells slots h1 h2 ⟨hH, hS, hE, hF, hT.cons fun b hb => by cases hb; exact ⟨hH.2.2.2.2.2.2.2, by decide⟩⟩ hl)
theorem v_ldcM (X : VC p l R s m args meth c G dep mc ms nL own cc) {index : Nat} (hw : Cond.classLink own index "[Ljava/lang/Object;" ∈ gTB) (hdg : decode cc pc = .ok (.ldc index, 2))
    (kk : ∀ a : Nat, (∀ b, 2 ≤ sC σ b ↔ b = a) → V p l e R s m args below meth c Q G d σ0 mc ms nL σ k n tv (pc + 2) lv (va_rf (some a) :: rest)) : V p l e R s m args below meth c Q G d σ0 mc ms nL σ k n tv pc lv rest := by
  intro H locs ls cells slots h1 h2 hG hl
  obtain ⟨hH, hS, hE, hF, hT⟩ := id hG
  exact va_ldcM X.1 X.2.1 X.2.2.2.1 (X.2.2.2.2.1 _ hw) X.2.2.2.2.2.1.2.2.2.2.2.2.1 hdg (kk _ hH.2.2.2.2.2.1 H locs ls cells slots h1 h2 hG hl)
theorem v_getC (X : VC p l R s m args meth c G dep mc ms nL own cc) {index a0 : Nat} (j : Nat) (hj : tv[j]? = some (some a0, 50)) (hw1 : Cond.methodLink own index ⟨"java/lang/Object", "getClass", "()Ljava/lang/Class;"⟩ ∈ gTB) (hw2 : Cond.declares ⟨"java/lang/Object", "getClass", "()Ljava/lang/Class;"⟩ ∈ gNB) (hw3 : Cond.selects "[Ljava/lang/Object;" ⟨"java/lang/Object", "getClass", "()Ljava/lang/Class;"⟩ ⟨"java/lang/Object", "getClass", "()Ljava/lang/Class;"⟩ ∈ gTB) (hw4 : Cond.instanceMethod ⟨"java/lang/Object", "getClass", "()Ljava/lang/Class;"⟩ ∈ gTB) (hw5 : Cond.native ⟨"java/lang/Object", "getClass", "()Ljava/lang/Class;"⟩ ∈ gTB) (hcat : (rest.map fun v => v.category).sum ≤ 8) (hdg : decode cc pc = .ok (.invokevirtual index, 3))
    (kk : ∀ a : Nat, (∀ b, 2 ≤ sC σ b ↔ b = a) → V p l e R s m args below meth c Q G d σ0 mc ms nL σ k n tv (pc + 3) lv (va_rf (some a) :: rest)) : V p l e R s m args below meth c Q G d σ0 mc ms nL σ k n tv pc lv (va_rf (some a0) :: rest) := by
  intro H locs ls cells slots h1 h2 hG hl
  obtain ⟨hH, hS, hE, hF, hT⟩ := id hG
  have hk := (hT.at j hj).1
  have hcell : ∃ cell : Cell, H[a0]? = some cell ∧ cell.vm.isStatics = false ∧ cell.cls = G.2.1 6 := by
    have h8 := hH.1 a0 _ (cE_q hk rfl)
    unfold gAt at h8
    split at h8
    · obtain ⟨ce, e1, e2, e3, e4, e5⟩ := h8
      exact ⟨ce, e1, e5, e2⟩
    · exact ⟨_, (show H[a0]? = some (vp_cell _ _) from h8), rfl, rfl⟩
  obtain ⟨ce, ha, hs9, hc9⟩ := hcell
  refine va_getC X.1 X.2.1 (by rw [X.2.2.1]; exact hl.1.symm) X.2.2.2.1 (X.2.2.2.2.1 _ hw1) (va_Nw.use rfl (X.2.2.2.2.2.1.2.1 _ hw2)) (X.2.2.2.2.1 _ hw3) (X.2.2.2.2.1 _ hw4) (X.2.2.2.2.1 _ hw5) X.2.2.2.2.2.1.2.2.2.2.2.2.1 ⟨_, ha, hs9, ?_⟩ (by have q1 := X.2.2.2.2.2.2.2.2.1; omega) (by have q2 := X.2.2.2.2.2.2.2.2.2.1; omega) hdg (kk _ hH.2.2.2.2.2.1 H locs ls cells slots h1 h2 hG hl)
  rw [hc9]
  exact va_nmO (X.2.2.2.2.2.1.1.2 6 _ rfl).2 rfl
theorem v_cast (X : VC p l R s m args meth c G dep mc ms nL own cc) {index a : Nat} (C : String) (T : u_T) (N κ ci : Nat) (hk : sK σ a = κ) (hκ : isO κ = true ∧ kCi κ = ci) (hcl : gCl[ci]? = some (C, T, N)) (hw : Cond.classLink own index C ∈ gTB) (hdg : decode cc pc = .ok (.checkcast index, 3))
    (kk : V p l e R s m args below meth c Q G d σ0 mc ms nL σ k n ((some a, κ) :: tv) (pc + 3) lv (va_rf (some a) :: rest)) : V p l e R s m args below meth c Q G d σ0 mc ms nL σ k n tv pc lv (va_rf (some a) :: rest) := by
  intro H locs ls cells slots h1 h2 hG hl
  obtain ⟨hH, hS, hE, hF, hT⟩ := id hG
  refine va_castS X.1 X.2.1 X.2.2.2.1 (X.2.2.2.2.1 _ hw) (X.2.2.2.2.2.1.1.1 ci _ hcl).2 (gRec X.2.2.2.2.2.1 hH hk hκ hcl) hdg (kk H locs ls cells slots h1 h2 ⟨hH, hS, hE, hF, hT.cons fun b hb => ?_⟩ hl)
  cases hb
  exact ⟨hk, (isO_lt hκ.1).2⟩
theorem v_objInit (X : VC p l R s m args meth c G dep mc ms nL own cc) {index a : Nat} (hw1 : Cond.methodLink own index objectInit ∈ gTB) (hw2 : Cond.instanceMethod objectInit ∈ gTB) (hw3 : Cond.code objectInit ⟨#[0xb1]⟩ 1 none ∈ gTB) (hcat : (rest.map fun v => v.category).sum ≤ 8) (hdg : decode cc pc = .ok (.invokespecial index, 3))
    (kk : V p l e R s m args below meth c Q G d σ0 mc ms nL σ k n tv (pc + 3) lv rest) : V p l e R s m args below meth c Q G d σ0 mc ms nL σ k n tv pc lv (va_rf (some a) :: rest) := by
  intro H locs ls cells slots h1 h2 hG hl
  obtain ⟨hH, hS, hE, hF, hT⟩ := id hG
  exact W.objInit X.1 X.2.1 X.2.2.2.1 (X.2.2.2.2.1 _ hw1) (X.2.2.2.2.1 _ hw2) (X.2.2.2.2.1 _ hw3) rfl (by rw [X.2.2.1]; exact hl.1) rfl hdg (by have q1 := X.2.2.2.2.2.2.2.2.1; omega) (by have q2 := X.2.2.2.2.2.2.2.2.2.1; show 2 * 0 + _ + 12 ≤ _; omega) (kk H locs ls cells slots h1 h2 hG hl)
theorem v_nul (κ : Nat) (kk : V p l e R s m args below meth c Q G d σ0 mc ms nL σ k n ((none, κ) :: tv) pc lv rest) : V p l e R s m args below meth c Q G d σ0 mc ms nL σ k n tv pc lv rest := fun H locs ls cells slots h1 h2 hG hl => kk H locs ls cells slots h1 h2 ⟨hG.1, hG.2.1, hG.2.2.1, hG.2.2.2.1, hG.2.2.2.2.cons fun b hb => nomatch hb⟩ hl
def exN (n : Nat) : String := if n = 1 then "java/lang/IndexOutOfBoundsException" else if n = 2 then "java/lang/IllegalArgumentException" else "java/lang/IllegalStateException"
def gX (G : GX) (d : Nat) (σ : St) (Y : Nat → St → Prop) : String → State → State → Prop := vx_X (S := Nat × St) (fun u => Y u.1 u.2) (fun E u t => E = exN u.1 ∧ gB G d σ u.2 t) (GA G)
abbrev MIX (l : Launch) (G : GX) (d : Nat) (σ : St) (y : MethodName) (b : ByteArray) (nL : Nat) (ret : Option FieldType) (dep mc ms : Nat) (av : List Value) (P : Int32 → St → Prop) (Y : Nat → St → Prop) : Prop := vx_Met l y (gW y b nL ret) (rmD dep mc ms) (va_Pc av (gP G σ)) (va_Qi P (gB G d σ) (GA G)) (gX G d σ Y) mc ms (GA G)
abbrev MVX (l : Launch) (G : GX) (d : Nat) (σ : St) (y : MethodName) (b : ByteArray) (nL : Nat) (dep mc ms : Nat) (av : List Value) (P : St → Prop) (Y : Nat → St → Prop) : Prop := vx_Met l y (gW y b nL none) (rmD dep mc ms) (va_Pc av (gP G σ)) (va_Qv P (gB G d σ) (GA G)) (gX G d σ Y) mc ms (GA G)
theorem m_startX {y : MethodName} {b : ByteArray} {ret : Option FieldType} {av : List Value} {Qc : Array Value → State → Outcome → State → Prop} {XC : String → State → State → Prop} (own : String) (hy : plainName y.cls = true ∧ y.cls = own) (htr : l.stackTraces = false) (htv : tvOk σ tv) (hent : (lg_sl av).length ≤ nL) (hlv : lv_args 0 av = lv)
    (body : ∀ (p : Program) (e : Env) (s : State) (m : MethodId) (args : Array Value) (below : List Frame) (meth : Method) (c : Code), VC p l (rmD dep mc ms) s m args meth c G dep mc ms nL own b → meth.sig.returnType = ret → meth.name = y.name → (∀ x ∈ c.exceptionTable.toList, False) →
      V p l e (rmD dep mc ms) s m args below meth c (vx_MQ below Qc XC args s mc ms (GA G)) G d σ mc ms nL σ mc ms tv 0 lv []) : vx_Met l y (gW y b nL ret) (rmD dep mc ms) (va_Pc av (gP G σ)) Qc XC mc ms (GA G) := by
  refine vx_ofW (cc := b) (maxL := nL) (ret := ret) hy.1 rfl ?_
  intro p e s m args below meth c s₁ B hml hex hv
  obtain ⟨rfl, hH, hC⟩ := hv
  have hts := atoms_spec (ws := gW y b nL ret) B.pre
  have hown : s.vm.findClass own = some m.cls := by rw [← hy.2]; exact findClass_of_methodNamed B.named
  have hl := lv_entry av (n := nL) hent
  rw [lg_entry_eq]
  rw [hlv] at hl
  exact body p e s m _ below meth c ⟨B.exec, B.bytes, hml, hown, fun w hw => hts w (List.mem_cons_of_mem _ hw), hC, B.notSynchronized, htr, Nat.le_refl _, Nat.le_refl _, rfl, rfl⟩ B.returns (name_of_methodNamed B.named B.method).1 hex s.heap [] _ 0 0 (Nat.zero_add _) (Nat.zero_add _) ⟨hH, va_S.rf, ext.rf σ, fr.rf d σ, htv⟩ hl
theorem v_X {Qc : Array Value → State → Outcome → State → Prop} {XC : String → State → State → Prop} (kk : V p l e R s m args below meth c (MQ below Qc args s mc ms (GA G)) G d σ0 mc ms nL σ k n tv pc lv rest) : V p l e R s m args below meth c (vx_MQ below Qc XC args s mc ms (GA G)) G d σ0 mc ms nL σ k n tv pc lv rest := by
  intro H locs ls cells slots h1 h2 hG hl
  intro T hT XX
  obtain ⟨t, a1, o, b1, b2, b3, b4⟩ := kk H locs ls cells slots h1 h2 hG hl T hT XX
  exact ⟨t, a1, o, b1, b2, Or.inl ⟨b3, b4⟩⟩
theorem v_throw (X : VC p l R s m args meth c G dep mc ms nL own cc) {Qc : Array Value → State → Outcome → State → Prop} {Y : Nat → St → Prop} (hex : ∀ x ∈ c.exceptionTable.toList, False) (nx : Nat) {ik ic : Nat} (hown : Bundle.fit (exN nx) = true)
    (hk : Cond.classLink own ik (exN nx) ∈ gTB) (hini : Cond.initialized (exN nx) ∈ gTB) (hat : ∀ w ∈ vx_at0 own ic (exN nx) ["java/lang/RuntimeException", "java/lang/Exception"], w ∈ gTB ∨ w ∈ gNB)
    (hgood : ∀ w ∈ Cond.classLink own ik (exN nx) :: Cond.initialized (exN nx) :: vx_at0 own ic (exN nx) ["java/lang/RuntimeException", "java/lang/Exception"], vx_ot w = true)
    (d0 : decode cc pc = .ok (.new ik, 3)) (d3 : decode cc (pc + 3) = .ok (.dup, 1)) (d4 : decode cc (pc + 4) = .ok (.invokespecial ic, 3)) (d7 : decode cc (pc + 7) = .ok (.athrow, 1))
    (hcat : (rest.map fun v => v.category).sum ≤ 8) (hy : 1 ≤ k ∧ 6 ≤ n ∧ Y nx σ) : V p l e R s m args below meth c (vx_MQ below Qc (gX G d σ0 Y) args s mc ms (GA G)) G d σ0 mc ms nL σ k n tv pc lv rest := by
  intro H locs ls cells slots h1 h2 hG hl
  obtain ⟨hH, hS, hE, hF, hT⟩ := id hG
  have hC := X.2.2.2.2.2.1
  have q1 := X.2.2.2.2.2.2.2.2.1
  have q2 := X.2.2.2.2.2.2.2.2.2.1
  have q3 := X.2.2.2.2.2.2.2.2.2.2.1
  have q4 := X.2.2.2.2.2.2.2.2.2.2.2
  refine vx_throw0 (A := GA G) X.1 X.2.1 X.2.2.2.2.2.2.2.1 (names := ["java/lang/RuntimeException", "java/lang/Exception"]) X.2.2.2.1 hown (by decide +kernel) (X.2.2.2.2.1 _ hk) (X.2.2.2.2.1 _ hini) (fun w hw => ?_) hgood hC.2.2.2.1 hC.2.2.2.2.1 hS (by rw [X.2.2.1]; exact hl.1) d0 d3 d4 d7 (fun x hx => (hex x hx).elim) (by show 2 + 3 < _; omega) (by show _ + (13 * (2 + 1) + 42) ≤ _; omega) (by omega) (by omega) X.2.2.2.2.2.2.1 (fun t hv hz hq => ?_) hS.2.2 (by omega) (by omega)
  · rcases hat w hw with g | g
    · exact X.2.2.2.2.1 w g
    · have h9 := hC.2.1 w g
      exact va_tabs (gNB_tab w g) rfl h9
  · refine ⟨(nx, σ), hy.2.2, ⟨rfl, ⟨fun a e9 he => (hH.1 a e9 he).kept (hq a (hH.1 a e9 he).lt), hH.2⟩, hE, hF⟩, Nat.le_trans hS.1 hz, fun q g1 g2 => ?_⟩
    rw [hq q (Nat.lt_of_lt_of_le g1 hS.1)]
    exact hS.2.1 q g1 g2
/-! THE LAW'S ROWS -/
def jc (x y : Int32) : Int32 := if y.toInt64 < x.toInt64 then 1 else if x.toInt64 = y.toInt64 then 0 else -1
theorem jc_eq {x y : Int32} (h : jc x y = 0) : x = y := by
  unfold jc at h
  split at h
  · exact absurd h (by decide)
  · split at h
    · next g =>
      have g2 := congrArg Int64.toInt g
      rw [Int32.toInt_toInt64, Int32.toInt_toInt64] at g2
      exact Int32.toInt_inj.mp g2
    · exact absurd h (by decide)
theorem jc_rf (x : Int32) : jc x x = 0 := by
  unfold jc
  rw [if_neg (fun h => absurd h (Int64.lt_irrefl)), if_pos rfl]
theorem lv_lcmp {p : Program} {l : Launch} {e : Env} {R : Room} {s : State} {m : MethodId} {args : Array Value} {below : List Frame} {meth : Method} {c : Code} {H : Heap} {locs : List Loc} {cells slots : Nat} {Q : State → Prop} {cc : ByteArray} {pc : Nat} {ls : Array Slot} {rest : List Value} (hexec : p.tables.exec = Jvm.exec) (hb : c.code = cc) {x y : Int32} (hdg : decode cc pc = .ok (.lcmp, 1))
    (k : W p l e R s m args below meth c H locs cells slots Q (F0 m (pc + 1) ls (.int (jc x y) :: rest))) : W p l e R s m args below meth c H locs cells slots Q (F0 m pc ls (.long y.toInt64 :: .long x.toInt64 :: rest)) := by
  intro T hT X
  obtain ⟨t, a, b⟩ := k T hT X
  refine ⟨t, ?_, b⟩
  unfold jc at a
  by_cases h1 : y.toInt64 < x.toInt64
  · rw [if_pos h1] at a
    jvm_step X.here [X.here.top, hexec, hb, hdg, h1]
    exact a
  · rw [if_neg h1] at a
    by_cases h2 : x.toInt64 = y.toInt64
    · rw [if_pos h2] at a
      rw [h2] at h1 ⊢
      jvm_step X.here [X.here.top, hexec, hb, hdg, h1]
      exact a
    · rw [if_neg h2] at a
      have h3 : ¬ (x.toInt64 == y.toInt64) = true := by simpa using h2
      jvm_step X.here [X.here.top, hexec, hb, hdg, h1, h2, h3]
      exact a
theorem v_lcmp (X : VC p l R s m args meth c G dep mc ms nL own cc) {x y : Int32} (hdg : decode cc pc = .ok (.lcmp, 1))
    (kk : V p l e R s m args below meth c Q G d σ0 mc ms nL σ k n tv (pc + 1) lv (.int (jc x y) :: rest)) : V p l e R s m args below meth c Q G d σ0 mc ms nL σ k n tv pc lv (.long y.toInt64 :: .long x.toInt64 :: rest) := fun H locs ls cells slots h1 h2 hG hl => lv_lcmp X.1 X.2.1 hdg (kk H locs ls cells slots h1 h2 hG hl)
theorem v_lald (X : VC p l R s m args meth c G dep mc ms nL own cc) {i : Int32} {a : Nat} (j : Nat) (hj : tv[j]? = some (some a, 23)) (hi : vp_in i (sL σ a)) (hdg : decode cc pc = .ok (.laload, 1))
    (kk : V p l e R s m args below meth c Q G d σ0 mc ms nL σ k n tv (pc + 1) lv (.long (sA σ a i.toNatClampNeg).toInt64 :: rest)) : V p l e R s m args below meth c Q G d σ0 mc ms nL σ k n tv pc lv (.int i :: va_rf (some a) :: rest) := by
  intro H locs ls cells slots h1 h2 hG hl
  obtain ⟨hH, hS, hE, hF, hT⟩ := id hG
  have ha := hH.at (cE_j (hT.at j hj).1) (Or.inl (by rw [(hT.at j hj).1]; decide))
  exact va_lald X.1 X.2.1 X.2.2.2.2.2.1.1 (vP1 ha) 0 2 rfl rfl hi hdg (kk H locs ls cells slots h1 h2 hG hl)
theorem updL_u2 {a j : Nat} {v : Int32} : vp_updL (fun q => (sA σ a q).toInt64) j v.toInt64 = fun q => (sA (setA a j v σ) a q).toInt64 := by
  funext q
  rw [sA_setA, u2_at]
  by_cases hq : q = j
  · simp [vp_updL, hq]
  · simp [vp_updL, hq]
theorem v_last (X : VC p l R s m args meth c G dep mc ms nL own cc) {i v : Int32} {a : Nat} (j : Nat) (hj : tv[j]? = some (some a, 23)) (hd : d = 0) (hi : vp_in i (sL σ a)) (hdg : decode cc pc = .ok (.lastore, 1))
    (kk : ∀ τ : St, τ = setA a i.toNatClampNeg v σ → V p l e R s m args below meth c Q G d σ0 mc ms nL τ k n tv (pc + 1) lv rest) : V p l e R s m args below meth c Q G d σ0 mc ms nL σ k n tv pc lv (.long v.toInt64 :: .int i :: va_rf (some a) :: rest) := by
  intro H locs ls cells slots h1 h2 hG hl
  obtain ⟨hH, hS, hE, hF, hT⟩ := id hG
  have hk := (hT.at j hj).1
  have hk2 : sK (setA a i.toNatClampNeg v σ) a = 23 := hk
  obtain ⟨iw, hw⟩ := wsH_in hH (cE_j hk) (fun q => by have := hH.2.2.2.2.2.2.2; rw [← q, hk] at this; omega)
  refine va_last X.1 X.2.1 X.2.2.2.2.2.1.1 (wsH_P hH) (wsH_D hH) hS iw 2 hw rfl hi hdg fun H1 locs1 hP hD hS1 => ?_
  rw [updL_u2] at hP
  exact kk _ rfl H1 _ ls cells slots h1 h2 (gs_set X hG hH.2 (sK_setA _ _ _ σ) (Or.inr hd) (fun b hb => cEq_setA _ _ _ σ hb) hw (cE_j hk2) hP hS1) hl
theorem v_sld (X : VC p l R s m args meth c G dep mc ms nL own cc) {b L : Nat} {xs : Nat → Int32} (hX : va_X b L xs s s.heap ∧ b < s.heap.size ∧ ¬ GA G b) {i : Int32} (hi : vp_in i L) (hdg : decode cc pc = .ok (.iaload, 1))
    (kk : V p l e R s m args below meth c Q G d σ0 mc ms nL σ k n tv (pc + 1) lv (.int (xs i.toNatClampNeg) :: rest)) : V p l e R s m args below meth c Q G d σ0 mc ms nL σ k n tv pc lv (.int i :: va_rf (some b) :: rest) := fun H locs ls cells slots h1 h2 hG hl => va_sld X.1 X.2.1 hX.1 hX.2.1 hX.2.2 hG.2.1 hi hdg (kk H locs ls cells slots h1 h2 hG hl)
theorem v_slen (X : VC p l R s m args meth c G dep mc ms nL own cc) {b L : Nat} {xs : Nat → Int32} (hX : va_X b L xs s s.heap ∧ b < s.heap.size ∧ ¬ GA G b) (hdg : decode cc pc = .ok (.arraylength, 1))
    (kk : V p l e R s m args below meth c Q G d σ0 mc ms nL σ k n tv (pc + 1) lv (.int (Int32.ofNat L) :: rest)) : V p l e R s m args below meth c Q G d σ0 mc ms nL σ k n tv pc lv (va_rf (some b) :: rest) := fun H locs ls cells slots h1 h2 hG hl => va_slen X.1 X.2.1 hX.1 hX.2.1 hX.2.2 hG.2.1 hdg (kk H locs ls cells slots h1 h2 hG hl)
theorem v_tab (X : VC p l R s m args meth c G dep mc ms nL own cc) {x : Int32} {dflt hi : Int} {offs : Array Int} {len : Nat} (T : List Nat) (tO : Nat) (hdg : decode cc pc = .ok (.tableswitch dflt 0 hi offs, len)) (hO : (pc : Int) + dflt = (tO : Int)) (hT : offs.toList.map (fun o => (pc : Int) + o) = T.map (fun (t : Nat) => (t : Int))) (hh : hi + 1 = (T.length : Int))
    (ko : (x.toInt < 0 ∨ hi < x.toInt) → V p l e R s m args below meth c Q G d σ0 mc ms nL σ k n tv tO lv rest) (ki : ∀ (j : Nat) (tgt : Nat), x.toInt = (j : Int) → T[j]? = some tgt → V p l e R s m args below meth c Q G d σ0 mc ms nL σ k n tv tgt lv rest) : V p l e R s m args below meth c Q G d σ0 mc ms nL σ k n tv pc lv (.int x :: rest) := by
  intro H locs ls cells slots h1 h2 hG hl
  by_cases c1 : x.toInt < 0 ∨ hi < x.toInt
  · exact lv_tableOut X.1 X.2.1 hdg c1 hO (ko c1 H locs ls cells slots h1 h2 hG hl)
  · have c2 : ¬ x.toInt < 0 := fun q => c1 (Or.inl q)
    have c3 : ¬ hi < x.toInt := fun q => c1 (Or.inr q)
    have hj : x.toInt = (x.toInt.toNat : Int) := by omega
    have hl9 : x.toInt.toNat < T.length := by omega
    obtain ⟨tgt, ht⟩ : ∃ tgt, T[x.toInt.toNat]? = some tgt := ⟨_, List.getElem?_eq_getElem hl9⟩
    have h7 : (offs.toList.map (fun o => (pc : Int) + o))[x.toInt.toNat]? = some (tgt : Int) := by rw [hT, List.getElem?_map, ht]; rfl
    rw [List.getElem?_map] at h7
    obtain ⟨off, ho, he⟩ := Option.map_eq_some_iff.mp h7
    rw [Array.getElem?_toList] at ho
    exact lv_tableIn X.1 X.2.1 hdg c2 c3 (by rw [Int.sub_zero]; exact ho) he (ki _ tgt hj ht H locs ls cells slots h1 h2 hG hl)
def gWW (y : MethodName) (b : ByteArray) (nL : Nat) (ret : Option FieldType) (hh : List (Nat × Nat × Nat × Nat)) : List Cond := Cond.codeWith y b nL ret hh :: gTB
abbrev MIW (l : Launch) (G : GX) (d : Nat) (σ : St) (y : MethodName) (b : ByteArray) (nL : Nat) (ret : Option FieldType) (hh : List (Nat × Nat × Nat × Nat)) (dep mc ms : Nat) (av : List Value) (P : Int32 → St → Prop) : Prop := Met l y (gWW y b nL ret hh) (rmD dep mc ms) (va_Pc av (gP G σ)) (va_Qi P (gB G d σ) (GA G)) mc ms (GA G)
theorem gWW_in {y : MethodName} {b : ByteArray} {nL : Nat} {ret : Option FieldType} {hh : List (Nat × Nat × Nat × Nat)} (h : Cond.codeWith y b nL ret hh ∈ gTB) : ∀ w ∈ gWW y b nL ret hh, w ∈ gTB := fun w hw => (List.mem_cons.mp hw).elim (fun q => q ▸ h) id
theorem gSW_in {own : String} {i : Nat} {y : MethodName} {b : ByteArray} {nL : Nat} {ret : Option FieldType} {hh : List (Nat × Nat × Nat × Nat)} (w1 : Cond.methodLink own i y ∈ gTB) (w2 : Cond.static y ∈ gTB) (w4 : Cond.initialized y.cls ∈ gTB) (w5 : Cond.codeWith y b nL ret hh ∈ gTB) : ∀ w ∈ va_wsS own i y (gWW y b nL ret hh), w ∈ gTB := fun w hw => by
  rcases List.mem_append.mp hw with h | h
  · simp only [List.mem_cons, List.not_mem_nil, or_false] at h
    rcases h with rfl | rfl | rfl <;> assumption
  · exact gWW_in w5 w h
theorem m_startW {y : MethodName} {b : ByteArray} {ret : Option FieldType} {hh : List (Nat × Nat × Nat × Nat)} {av : List Value} {Qc : Array Value → State → Outcome → State → Prop} (own : String) (hy : plainName y.cls = true ∧ y.cls = own) (htr : l.stackTraces = false) (htv : tvOk σ tv) (hent : (lg_sl av).length ≤ nL) (hlv : lv_args 0 av = lv)
    (body : ∀ (p : Program) (e : Env) (s : State) (m : MethodId) (args : Array Value) (below : List Frame) (meth : Method) (c : Code), VC p l (rmD dep mc ms) s m args meth c G dep mc ms nL own b → meth.sig.returnType = ret → meth.name = y.name → c.exceptionTable.toList = tableOf hh →
      V p l e (rmD dep mc ms) s m args below meth c (MQ below Qc args s mc ms (GA G)) G d σ mc ms nL σ mc ms tv 0 lv []) : Met l y (gWW y b nL ret hh) (rmD dep mc ms) (va_Pc av (gP G σ)) Qc mc ms (GA G) := by
  refine MetFree.of_bodyS (code := b) (maxLocals := nL) (ret := ret) hy.1 ?_ ?_
  · intro args s m h hn
    obtain ⟨m9, meth, c, hn9, h1, h2, h3, h4, -, h5, h6, -⟩ := Cond.codeWith_spec (atoms_spec (ws := gWW y b nL ret hh) h _ List.mem_cons_self)
    cases hn.symm.trans hn9
    exact ⟨meth, c, h1, h2, h3, h4, h5, h6⟩
  · intro p e s m args below meth c s₁ B hml hv _
    have hh0 : s₁.heap = s.heap := by rw [B.state]; rfl
    obtain ⟨rfl, hH, hC⟩ := hv
    have hts := atoms_spec (ws := gWW y b nL ret hh) B.pre
    have hown : s.vm.findClass own = some m.cls := by rw [← hy.2]; exact findClass_of_methodNamed B.named
    have hl := lv_entry av (n := nL) hent
    have htab := vx_table (x := y) B (hts _ List.mem_cons_self)
    rw [hlv] at hl
    obtain ⟨t, a1, o, b1, b2, b3⟩ := body p e s m _ below meth c ⟨B.exec, B.bytes, hml, hown, fun w hw => hts w (List.mem_cons_of_mem _ hw), hC, B.notSynchronized, htr, Nat.le_refl _, Nat.le_refl _, rfl, rfl⟩ B.returns (name_of_methodNamed B.named B.method).1 htab s.heap [] _ 0 0 (Nat.zero_add _) (Nat.zero_add _) ⟨hH, va_S.rf, ext.rf σ, fr.rf d σ, htv⟩ hl s₁ hh0 (Stand.of_body B)
    rw [← lg_entry_eq] at a1
    exact ⟨t, o, a1, b1, b2, b3⟩
def gCat (c : Code) (own : String) (pc n hp : Nat) : Prop := ∃ (pre : List ExceptionTableEntry) (x : ExceptionTableEntry) (suf : List ExceptionTableEntry), c.exceptionTable.toList = pre ++ x :: suf ∧ (∀ z ∈ pre, z.catchType ≠ 0 ∧ ∃ nm : String, Cond.classLink own z.catchType nm ∈ gTB ∧ (exN n, nm) ∈ gNC) ∧ covers x pc = true ∧ x.catchType ≠ 0 ∧ Cond.classLink own x.catchType (exN n) ∈ gTB ∧ Cond.castable (exN n) (exN n) ∈ gNB ∧ x.handlerPc = hp
theorem gCat0 {q0 : Nat × Nat × Nat × Nat} {suf : List (Nat × Nat × Nat × Nat)} {n hp : Nat} (h : c.exceptionTable.toList = tableOf (q0 :: suf)) (h1 : covers ⟨q0.1, q0.2.1, q0.2.2.1, q0.2.2.2⟩ pc = true) (h2 : q0.2.2.2 ≠ 0) (h3 : Cond.classLink own q0.2.2.2 (exN n) ∈ gTB) (h4 : Cond.castable (exN n) (exN n) ∈ gNB) (h5 : q0.2.2.1 = hp) : gCat c own pc n hp :=
  ⟨[], _, _, h, fun _ hz => (List.not_mem_nil hz).elim, h1, h2, h3, h4, h5⟩
theorem gCat1 {q0 q1 : Nat × Nat × Nat × Nat} {suf : List (Nat × Nat × Nat × Nat)} {n n0 hp : Nat} (h : c.exceptionTable.toList = tableOf (q0 :: q1 :: suf)) (g2 : q0.2.2.2 ≠ 0) (g3 : Cond.classLink own q0.2.2.2 (exN n0) ∈ gTB) (g4 : (exN n, exN n0) ∈ gNC) (h1 : covers ⟨q1.1, q1.2.1, q1.2.2.1, q1.2.2.2⟩ pc = true) (h2 : q1.2.2.2 ≠ 0) (h3 : Cond.classLink own q1.2.2.2 (exN n) ∈ gTB) (h4 : Cond.castable (exN n) (exN n) ∈ gNB) (h5 : q1.2.2.1 = hp) : gCat c own pc n hp :=
  ⟨[⟨q0.1, q0.2.1, q0.2.2.1, q0.2.2.2⟩], _, _, h, fun z hz => by cases List.mem_singleton.mp hz; exact ⟨g2, _, g3, g4⟩, h1, h2, h3, h4, h5⟩
theorem gCat2 {q0 q1 q2 : Nat × Nat × Nat × Nat} {suf : List (Nat × Nat × Nat × Nat)} {n n0 n1 hp : Nat} (h : c.exceptionTable.toList = tableOf (q0 :: q1 :: q2 :: suf)) (g2 : q0.2.2.2 ≠ 0) (g3 : Cond.classLink own q0.2.2.2 (exN n0) ∈ gTB) (g4 : (exN n, exN n0) ∈ gNC) (f2 : q1.2.2.2 ≠ 0) (f3 : Cond.classLink own q1.2.2.2 (exN n1) ∈ gTB) (f4 : (exN n, exN n1) ∈ gNC) (h1 : covers ⟨q2.1, q2.2.1, q2.2.2.1, q2.2.2.2⟩ pc = true) (h2 : q2.2.2.2 ≠ 0) (h3 : Cond.classLink own q2.2.2.2 (exN n) ∈ gTB) (h4 : Cond.castable (exN n) (exN n) ∈ gNB) (h5 : q2.2.2.1 = hp) : gCat c own pc n hp :=
  ⟨[⟨q0.1, q0.2.1, q0.2.2.1, q0.2.2.2⟩, ⟨q1.1, q1.2.1, q1.2.2.1, q1.2.2.2⟩], _, _, h, fun z hz => by
    rcases List.mem_cons.mp hz with e | hz
    · cases e; exact ⟨g2, _, g3, g4⟩
    · cases List.mem_singleton.mp hz; exact ⟨f2, _, f3, f4⟩, h1, h2, h3, h4, h5⟩
theorem v_callXi (X : VC p l R s m args meth c G dep mc ms nL own cc) {y : MethodName} {bytes : ByteArray} {maxL' dep' index nA d' : Nat} {ret' : Option FieldType} {Y : Nat → St → Prop} {P : Int32 → St → Prop} {b : Nat} {As : List Value} (k' n' k2 n2 : Nat) {st : List Value} (hM : tvOk σ tv → MIX l G d' σ y bytes maxL' ret' dep' k' n' (va_rf (some b) :: As) P Y) (hd : d' = d ∨ d = 0) (j : Nat) {C : String} {T : u_T} {N ci : Nat} {κ : Nat} (hj : tv[j]? = some (some b, κ)) (hκ : isO κ = true ∧ kCi κ = ci) (hcl : gCl[ci]? = some (C, T, N)) (hws : ∀ w ∈ wsV own index C y (gW y bytes maxL' ret'), w ∈ gTB) (hy : y.cls = C ∧ y.cls ≠ "java/lang/invoke/MethodHandle" ∧ y.cls ≠ "java/lang/invoke/VarHandle" ∧ (parseMethodDescriptor y.desc).map (fun d => d.parameters.length) = some nA) (hn : As.length = nA) (hst : st = As.reverse ++ va_rf (some b) :: rest) (hcat : (rest.map fun v => v.category).sum ≤ 8) (hdep : dep' + 1 ≤ dep) (hmx : maxL' ≤ 21) (hk : k2 + k' = k) (hkn : n2 + n' = n) (hdg : decode cc pc = .ok (.invokevirtual index, 3))
    (kx : ∀ (u q : Nat) (τ : St), Y u τ → ext σ τ → fr d' σ τ → ∃ hp : Nat, gCat c own pc u hp ∧ V p l e R s m args below meth c Q G d σ0 mc ms nL τ k2 n2 tv hp lv [va_rf (some q)]) (kk : ∀ (r : Int32) (τ : St), P r τ → ext σ τ → fr d' σ τ → V p l e R s m args below meth c Q G d σ0 mc ms nL τ k2 n2 tv (pc + 3) lv (.int r :: rest)) : V p l e R s m args below meth c Q G d σ0 mc ms nL σ k n tv pc lv st := by
  intro H locs ls cells slots h1 h2 hG hl
  obtain ⟨hH, hS, hE, hF, hT⟩ := id hG
  have hts := X.2.2.2.2.1
  have hR := rmD_ok (k' := k') (n' := n') hdep hmx X.2.2.2.2.2.2.2.2.1 X.2.2.2.2.2.2.2.2.2.1
  have hf : cells + k' ≤ R.cells ∧ slots + n' ≤ R.slots := by
    have q1 := X.2.2.2.2.2.2.2.2.2.2.1
    have q2 := X.2.2.2.2.2.2.2.2.2.2.2
    constructor <;> omega
  have hpre : ∀ U : State, U.heap = H → s.WarmedH U.vm → va_Pc (va_rf (some b) :: As) (gP G σ) (va_rf (some b) :: As).toArray U := fun U hU hW9 => ⟨rfl, by rw [hU]; exact hH, GC_call X.2.2.2.2.2.1 hS hU hW9⟩
  exact vx_calli (vx_runV (As := As) (rest := rest) ⟨X.1, X.2.1, X.2.2.1, X.2.2.2.1, hts⟩ (hM hT) (cwV nA hts (gGood hws) rfl rfl rfl hy hR) ⟨gP_blind, gRec X.2.2.2.2.2.1 hH (hT.at j hj).1 hκ hcl, hpre⟩ rfl hn hl.1 hst (lv_room hcat) hdg hf) hS (fun q _ h => h) (fun q h => h) (fun q _ h => h) (fun E ce q9 u t H1 locs1 ht hvm hp hB hz hk9 hS1 hce hcv hcl => by
    obtain ⟨rfl, hB⟩ := hB
    obtain ⟨hp9, ⟨pre, x, suf, e1, e2, e3, e4, e5, e6, e7⟩, hV⟩ := kx u.1 q9 u.2 hp hB.2.1 hB.2.2
    refine vx_catch X.2.2.2.1 pre x suf e1 (fun z hz => Or.inr ⟨(e2 z hz).1, ?_⟩) e3 e4 (X.2.2.2.2.1 _ e5) (va_Nw.use rfl (X.2.2.2.2.2.1.2.1 _ e6)) hce hcv hcl ?_
    · obtain ⟨nm, f1, f2⟩ := (e2 z hz).2
      exact ⟨nm, X.2.2.2.2.1 _ f1, X.2.2.2.2.2.1.2.2.1.2 _ f2⟩
    · rw [e7]
      exact hV H1 locs1 ls _ _ (by omega) (by omega) (gs_call hG hd hB ht hS1) hl) (fun r u t H1 locs1 ht hvm hp hB hz hk9 hS1 => kk r u hp hB.2.1 hB.2.2 H1 locs1 ls _ _ (by omega) (by omega) (gs_call hG hd hB ht hS1) hl)
theorem v_callXv (X : VC p l R s m args meth c G dep mc ms nL own cc) {y : MethodName} {bytes : ByteArray} {maxL' dep' index nA d' : Nat} {Y : Nat → St → Prop} {P : St → Prop} {b : Nat} {As : List Value} (k' n' k2 n2 : Nat) {st : List Value} (hM : tvOk σ tv → MVX l G d' σ y bytes maxL' dep' k' n' (va_rf (some b) :: As) P Y) (hd : d' = d ∨ d = 0) (j : Nat) {C : String} {T : u_T} {N ci : Nat} {κ : Nat} (hj : tv[j]? = some (some b, κ)) (hκ : isO κ = true ∧ kCi κ = ci) (hcl : gCl[ci]? = some (C, T, N)) (hws : ∀ w ∈ wsV own index C y (gW y bytes maxL' none), w ∈ gTB) (hy : y.cls = C ∧ y.cls ≠ "java/lang/invoke/MethodHandle" ∧ y.cls ≠ "java/lang/invoke/VarHandle" ∧ (parseMethodDescriptor y.desc).map (fun d => d.parameters.length) = some nA) (hn : As.length = nA) (hst : st = As.reverse ++ va_rf (some b) :: rest) (hcat : (rest.map fun v => v.category).sum ≤ 8) (hdep : dep' + 1 ≤ dep) (hmx : maxL' ≤ 21) (hk : k2 + k' = k) (hkn : n2 + n' = n) (hdg : decode cc pc = .ok (.invokevirtual index, 3))
    (kx : ∀ (u q : Nat) (τ : St), Y u τ → ext σ τ → fr d' σ τ → ∃ hp : Nat, gCat c own pc u hp ∧ V p l e R s m args below meth c Q G d σ0 mc ms nL τ k2 n2 tv hp lv [va_rf (some q)]) (kk : ∀ (τ : St), P τ → ext σ τ → fr d' σ τ → V p l e R s m args below meth c Q G d σ0 mc ms nL τ k2 n2 tv (pc + 3) lv rest) : V p l e R s m args below meth c Q G d σ0 mc ms nL σ k n tv pc lv st := by
  intro H locs ls cells slots h1 h2 hG hl
  obtain ⟨hH, hS, hE, hF, hT⟩ := id hG
  have hts := X.2.2.2.2.1
  have hR := rmD_ok (k' := k') (n' := n') hdep hmx X.2.2.2.2.2.2.2.2.1 X.2.2.2.2.2.2.2.2.2.1
  have hf : cells + k' ≤ R.cells ∧ slots + n' ≤ R.slots := by
    have q1 := X.2.2.2.2.2.2.2.2.2.2.1
    have q2 := X.2.2.2.2.2.2.2.2.2.2.2
    constructor <;> omega
  have hpre : ∀ U : State, U.heap = H → s.WarmedH U.vm → va_Pc (va_rf (some b) :: As) (gP G σ) (va_rf (some b) :: As).toArray U := fun U hU hW9 => ⟨rfl, by rw [hU]; exact hH, GC_call X.2.2.2.2.2.1 hS hU hW9⟩
  exact vx_callv (vx_runV (As := As) (rest := rest) ⟨X.1, X.2.1, X.2.2.1, X.2.2.2.1, hts⟩ (hM hT) (cwV nA hts (gGood hws) rfl rfl rfl hy hR) ⟨gP_blind, gRec X.2.2.2.2.2.1 hH (hT.at j hj).1 hκ hcl, hpre⟩ rfl hn hl.1 hst (lv_room hcat) hdg hf) hS (fun q _ h => h) (fun q h => h) (fun q _ h => h) (fun E ce q9 u t H1 locs1 ht hvm hp hB hz hk9 hS1 hce hcv hcl => by
    obtain ⟨rfl, hB⟩ := hB
    obtain ⟨hp9, ⟨pre, x, suf, e1, e2, e3, e4, e5, e6, e7⟩, hV⟩ := kx u.1 q9 u.2 hp hB.2.1 hB.2.2
    refine vx_catch X.2.2.2.1 pre x suf e1 (fun z hz => Or.inr ⟨(e2 z hz).1, ?_⟩) e3 e4 (X.2.2.2.2.1 _ e5) (va_Nw.use rfl (X.2.2.2.2.2.1.2.1 _ e6)) hce hcv hcl ?_
    · obtain ⟨nm, f1, f2⟩ := (e2 z hz).2
      exact ⟨nm, X.2.2.2.2.1 _ f1, X.2.2.2.2.2.1.2.2.1.2 _ f2⟩
    · rw [e7]
      exact hV H1 locs1 ls _ _ (by omega) (by omega) (gs_call hG hd hB ht hS1) hl) (fun u t H1 locs1 ht hvm hp hB hz hk9 hS1 => kk u hp hB.2.1 hB.2.2 H1 locs1 ls _ _ (by omega) (by omega) (gs_call hG hd hB ht hS1) hl)
theorem v_callW (X : VC p l R s m args meth c G dep mc ms nL own cc) {y : MethodName} {bytes : ByteArray} {maxL' dep' index nA d' : Nat} {ret' : Option FieldType} {P : Int32 → St → Prop} {As : List Value} (k' n' k2 n2 : Nat) {st : List Value} {hh : List (Nat × Nat × Nat × Nat)} (hM : tvOk σ tv → MIW l G d' σ y bytes maxL' ret' hh dep' k' n' As P) (hd : d' = d ∨ d = 0) (hws : ∀ w ∈ va_wsS own index y (gWW y bytes maxL' ret' hh), w ∈ gTB) (hy : y.cls ≠ "java/lang/invoke/MethodHandle" ∧ y.cls ≠ "java/lang/invoke/VarHandle" ∧ (parseMethodDescriptor y.desc).map (fun d => d.parameters.length) = some nA) (hn : As.length = nA) (hst : st = As.reverse ++ rest) (hcat : (rest.map fun v => v.category).sum ≤ 8) (hdep : dep' + 1 ≤ dep) (hmx : maxL' ≤ 21) (hk : k2 + k' = k) (hkn : n2 + n' = n) (hdg : decode cc pc = .ok (.invokestatic index, 3))
    (kk : ∀ (r : Int32) (τ : St), P r τ → ext σ τ → fr d' σ τ → V p l e R s m args below meth c Q G d σ0 mc ms nL τ k2 n2 tv (pc + 3) lv (.int r :: rest)) : V p l e R s m args below meth c Q G d σ0 mc ms nL σ k n tv pc lv st := by
  intro H locs ls cells slots h1 h2 hG hl
  obtain ⟨hH, hS, hE, hF, hT⟩ := id hG
  have hts := X.2.2.2.2.1
  have hR := rmD_ok (k' := k') (n' := n') hdep hmx X.2.2.2.2.2.2.2.2.1 X.2.2.2.2.2.2.2.2.2.1
  have hf : cells + k' ≤ R.cells ∧ slots + n' ≤ R.slots := by
    have q1 := X.2.2.2.2.2.2.2.2.2.2.1
    have q2 := X.2.2.2.2.2.2.2.2.2.2.2
    constructor <;> omega
  have hpre : ∀ U : State, U.heap = H → s.WarmedH U.vm → va_Pc As (gP G σ) (As).toArray U := fun U hU hW9 => ⟨rfl, by rw [hU]; exact hH, GC_call X.2.2.2.2.2.1 hS hU hW9⟩
  exact va_calli (vx_runSW (As := As) (rest := rest) ⟨X.1, X.2.1, X.2.2.1, X.2.2.2.1, hts⟩ (hM hT) (vx_cwSW nA hts (gGood hws) rfl rfl rfl hy hR) ⟨gP_blind, hpre⟩ rfl hn hl.1 hst (lv_room hcat) hdg hf) hS (fun q _ h => h) (fun q h => h) (fun r u t H1 locs1 ht hvm hp hB hz hk9 hS1 => kk r u hp hB.2.1 hB.2.2 H1 locs1 ls _ _ (by omega) (by omega) (gs_call hG hd hB ht hS1) hl)
end
