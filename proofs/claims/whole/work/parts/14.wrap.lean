set_option maxRecDepth 100000 in
set_option maxHeartbeats 4000000 in
theorem t_L_bar_18 {p : Program} {l : Launch} {e : Env} {s : State} {m : MethodId} {args : Array Value} {below : List Frame} {meth : Method} {c : Code} {G : GX} {σ0 : St} {mc ms : Nat} {Q : Int32 → St → Prop} (X : VC p l (rmD 2 mc ms) s m args meth c G 2 mc ms 6 RL cL_bar) (hr : meth.sig.returnType = (some .int)) (hin : meth.name = yL_bar.name) (htr : l.stackTraces = false) (htab : c.exceptionTable.toList = tableOf [(0, 19, 22, 13)]) : ∀ (as0 : Nat) (xs1 : Int32) (xs2 : Int32) (σ : St) (k n : Nat), w_L_bar_18 Q  as0 xs1 xs2 σ k n → V p l e (rmD 2 mc ms) s m args below meth c (MQ below (va_Qi Q (gB G 0 σ0) (GA G)) args s mc ms (GA G)) G 0 σ0 mc ms 6 σ k n [(some as0, 23)] 18 [] [.long xs2.toInt64, .int xs1, va_rf (some as0)] := by
  intro as0 xs1 xs2 σ k n hw
  unfold w_L_bar_18 at hw
  obtain ⟨h63, hw⟩ := hw
  refine v_last X 0 rfl rfl h63 (gD D_L_bar_0 11 rfl) (fun s64 es64 => ?_)
  replace hw := hw s64 es64
  refine v_goto X 26 (gD D_L_bar_0 12 rfl) (by decide) ?_
  refine v_iconst X 0 (gD D_L_bar_0 16 rfl) (by decide) ?_
  exact v_iret X hr hw (gD D_L_bar_0 17 rfl)
set_option maxRecDepth 100000 in
set_option maxHeartbeats 4000000 in
theorem c_L_bar {l : Launch} {G : GX} (htr : l.stackTraces = false) {k n : Nat} {σ : St} {a0 : Nat} {x1 : Int32} {x2 : Int32} {x3 : Int32} {a4 : Nat} {Q : Int32 → St → Prop} (ht : tvOk σ [(some a0, 12), (some a4, 23)]) (hw : w_L_bar k n a0 x1 x2 x3 a4 σ Q) : MIW l G 0 σ yL_bar cL_bar 6 (some .int) [(0, 19, 22, 13)] 2 k n [va_rf (some a0), .int x1, .int x2, .int x3, va_rf (some a4)] Q := by
  unfold w_L_bar at hw
  refine m_startW RL (by decide) htr ht (Nat.le_of_ble_eq_true rfl) rfl (lv := [(0, va_rf (some a0)), (1, .int x1), (2, .int x2), (3, .int x3), (4, va_rf (some a4))]) (d := 0) (fun p e s m args below meth c X hr hin htab => ?_)
  refine v_aload X 4 rfl (gD D_L_bar_0 0 rfl) ?_
  refine v_iconst X 0 (gD D_L_bar_0 1 rfl) (by decide) ?_
  refine v_aload_n X 0 rfl (gD D_L_bar_0 2 rfl) rfl ?_
  refine v_iload_n X 1 rfl (gD D_L_bar_0 3 rfl) rfl ?_
  refine v_iload_n X 2 rfl (gD D_L_bar_0 4 rfl) rfl ?_
  refine v_iload_n X 3 rfl (gD D_L_bar_0 5 rfl) rfl ?_
  obtain ⟨k53, n54, k55, n56, h57, h58, hw⟩ := hw
  refine v_callXi X (As := [.int x1, .int x2, .int x3]) (rest := [.int 0, va_rf (some a4)]) (nA := 3) k53 n54 k55 n56 (fun ht => c_X11_bar htr (ht.sub [0] rfl) hw) (Or.inr rfl) 0 (κ := 12) rfl (by decide) (rfl : gCl[11]? = some (RX11, TX11, 19)) lk_vRL_27 (by decide +kernel) rfl rfl (by simp [rf_cat, ct_i]) (by decide) (by decide) h57 h58 (gD D_L_bar_0 6 rfl) (fun u60 q59 s61 hy hx hf => ?_) (fun x51 s52 hq hx hf => ?_)
  · rcases hy with ⟨rfl, hw⟩
    refine ⟨_, gCat0 htab (by decide) (by decide) lk_xl_1 (by simp [gNB, exN]) rfl, ?_⟩
    replace hw := hw hx hf
    clear hx hf
    refine v_astore X [(5, va_rf (some q59)), (0, va_rf (some a0)), (1, .int x1), (2, .int x2), (3, .int x3), (4, va_rf (some a4))] (gD D_L_bar_0 13 rfl) (by decide) rfl ?_
    refine v_iconst X 1 (gD D_L_bar_0 14 rfl) (by decide) ?_
    exact v_iret X hr hw (gD D_L_bar_0 15 rfl)
  replace hw := hq hx hf
  clear hq hx hf
  refine v_if_eq X 17 (gD D_L_bar_0 7 rfl) (by decide) (fun c62 => ?_) (fun c62 => ?_)
  · replace hw := hw.1 c62
    refine v_lconst X (Int32.toInt64 0) (gD D_L_bar_0 10 rfl) (by decide) ?_
    exact v_sub [1] [] rfl rfl (t_L_bar_18 X hr hin htr htab  a4 0 0 s52 k55 n56 hw)
  · replace hw := hw.2 c62
    refine v_lconst X (Int32.toInt64 1) (gD D_L_bar_0 8 rfl) (by decide) ?_
    refine v_goto X 18 (gD D_L_bar_0 9 rfl) (by decide) ?_
    exact v_sub [1] [] rfl rfl (t_L_bar_18 X hr hin htr htab  a4 0 1 s52 k55 n56 hw)
set_option maxRecDepth 100000 in
set_option maxHeartbeats 4000000 in
theorem c_L_where {l : Launch} {G : GX} (htr : l.stackTraces = false) {k n : Nat} {σ : St} {a0 : Nat} {x1 : Int32} {a2 : Nat} {Q : Int32 → St → Prop} (ht : tvOk σ [(some a0, 12), (some a2, 23)]) (hw : w_L_where k n a0 x1 a2 σ Q) : MIW l G 0 σ yL_where cL_where 4 (some .int) [(0, 9, 12, 13)] 2 k n [va_rf (some a0), .int x1, va_rf (some a2)] Q := by
  unfold w_L_where at hw
  refine m_startW RL (by decide) htr ht (Nat.le_of_ble_eq_true rfl) rfl (lv := [(0, va_rf (some a0)), (1, .int x1), (2, va_rf (some a2))]) (d := 0) (fun p e s m args below meth c X hr hin htab => ?_)
  refine v_aload_n X 2 rfl (gD D_L_where_0 0 rfl) rfl ?_
  refine v_iconst X 0 (gD D_L_where_0 1 rfl) (by decide) ?_
  refine v_aload_n X 0 rfl (gD D_L_where_0 2 rfl) rfl ?_
  refine v_iload_n X 1 rfl (gD D_L_where_0 3 rfl) rfl ?_
  obtain ⟨k53, n54, k55, n56, h57, h58, hw⟩ := hw
  refine v_callXi X (As := [.int x1]) (rest := [.int 0, va_rf (some a2)]) (nA := 1) k53 n54 k55 n56 (fun ht => c_X11_where htr (ht.sub [0] rfl) hw) (Or.inr rfl) 0 (κ := 12) rfl (by decide) (rfl : gCl[11]? = some (RX11, TX11, 19)) lk_vRL_86 (by decide +kernel) rfl rfl (by simp [rf_cat, ct_i]) (by decide) (by decide) h57 h58 (gD D_L_where_0 4 rfl) (fun u60 q59 s61 hy hx hf => ?_) (fun x51 s52 hq hx hf => ?_)
  · rcases hy with ⟨rfl, hw⟩
    refine ⟨_, gCat0 htab (by decide) (by decide) lk_xl_1 (by simp [gNB, exN]) rfl, ?_⟩
    replace hw := hw hx hf
    clear hx hf
    refine v_astore_n X [(3, va_rf (some q59)), (0, va_rf (some a0)), (1, .int x1), (2, va_rf (some a2))] (gD D_L_where_0 8 rfl) rfl (by decide) rfl ?_
    refine v_iconst X 1 (gD D_L_where_0 9 rfl) (by decide) ?_
    exact v_iret X hr hw (gD D_L_where_0 10 rfl)
  replace hw := hq hx hf
  clear hq hx hf
  refine v_i2l X (gD D_L_where_0 5 rfl) ?_
  obtain ⟨h62, hw⟩ := hw
  refine v_last X 1 rfl rfl h62 (gD D_L_where_0 6 rfl) (fun s63 es63 => ?_)
  replace hw := hw s63 es63
  refine v_goto X 15 (gD D_L_where_0 7 rfl) (by decide) ?_
  refine v_iconst X 0 (gD D_L_where_0 11 rfl) (by decide) ?_
  exact v_iret X hr hw (gD D_L_where_0 12 rfl)
set_option maxRecDepth 100000 in
set_option maxHeartbeats 4000000 in
theorem c_L_find {l : Launch} {G : GX} (htr : l.stackTraces = false) {k n : Nat} {σ : St} {a0 : Nat} {x1 : Int32} {x2 : Int32} {x3 : Int32} {a4 : Nat} {Q : Int32 → St → Prop} (ht : tvOk σ [(some a0, 12), (some a4, 23)]) (hw : w_L_find k n a0 x1 x2 x3 a4 σ Q) : MIW l G 0 σ yL_find cL_find 6 (some .int) [(0, 12, 15, 13), (0, 12, 19, 15)] 3 k n [va_rf (some a0), .int x1, .int x2, .int x3, va_rf (some a4)] Q := by
  unfold w_L_find at hw
  refine m_startW RL (by decide) htr ht (Nat.le_of_ble_eq_true rfl) rfl (lv := [(0, va_rf (some a0)), (1, .int x1), (2, .int x2), (3, .int x3), (4, va_rf (some a4))]) (d := 0) (fun p e s m args below meth c X hr hin htab => ?_)
  refine v_aload X 4 rfl (gD D_L_find_0 0 rfl) ?_
  refine v_iconst X 0 (gD D_L_find_0 1 rfl) (by decide) ?_
  refine v_aload_n X 0 rfl (gD D_L_find_0 2 rfl) rfl ?_
  refine v_iload_n X 1 rfl (gD D_L_find_0 3 rfl) rfl ?_
  refine v_iload_n X 2 rfl (gD D_L_find_0 4 rfl) rfl ?_
  refine v_iload_n X 3 rfl (gD D_L_find_0 5 rfl) rfl ?_
  obtain ⟨k53, n54, k55, n56, h57, h58, hw⟩ := hw
  refine v_callXi X (As := [.int x1, .int x2, .int x3]) (rest := [.int 0, va_rf (some a4)]) (nA := 3) k53 n54 k55 n56 (fun ht => c_X11_find htr (ht.sub [0] rfl) hw) (Or.inr rfl) 0 (κ := 12) rfl (by decide) (rfl : gCl[11]? = some (RX11, TX11, 19)) lk_vRL_101 (by decide +kernel) rfl rfl (by simp [rf_cat, ct_i]) (by decide) (by decide) h57 h58 (gD D_L_find_0 6 rfl) (fun u60 q59 s61 hy hx hf => ?_) (fun x51 s52 hq hx hf => ?_)
  · rcases hy with ⟨rfl, hw⟩ | ⟨rfl, hw⟩
    · refine ⟨_, gCat0 htab (by decide) (by decide) lk_xl_1 (by simp [gNB, exN]) rfl, ?_⟩
      replace hw := hw hx hf
      clear hx hf
      refine v_astore X [(5, va_rf (some q59)), (0, va_rf (some a0)), (1, .int x1), (2, .int x2), (3, .int x3), (4, va_rf (some a4))] (gD D_L_find_0 10 rfl) (by decide) rfl ?_
      refine v_iconst X 1 (gD D_L_find_0 11 rfl) (by decide) ?_
      exact v_iret X hr hw (gD D_L_find_0 12 rfl)
    · refine ⟨_, gCat1 htab (by decide) lk_xl_1 (by simp [gNC, exN]) (by decide) (by decide) lk_xl_2 (by simp [gNB, exN]) rfl, ?_⟩
      replace hw := hw hx hf
      clear hx hf
      refine v_astore X [(5, va_rf (some q59)), (0, va_rf (some a0)), (1, .int x1), (2, .int x2), (3, .int x3), (4, va_rf (some a4))] (gD D_L_find_0 13 rfl) (by decide) rfl ?_
      refine v_iconst X 2 (gD D_L_find_0 14 rfl) (by decide) ?_
      exact v_iret X hr hw (gD D_L_find_0 15 rfl)
  replace hw := hq hx hf
  clear hq hx hf
  refine v_i2l X (gD D_L_find_0 7 rfl) ?_
  obtain ⟨h62, hw⟩ := hw
  refine v_last X 1 rfl rfl h62 (gD D_L_find_0 8 rfl) (fun s63 es63 => ?_)
  replace hw := hw s63 es63
  refine v_goto X 23 (gD D_L_find_0 9 rfl) (by decide) ?_
  refine v_iconst X 0 (gD D_L_find_0 16 rfl) (by decide) ?_
  exact v_iret X hr hw (gD D_L_find_0 17 rfl)
set_option maxRecDepth 100000 in
set_option maxHeartbeats 4000000 in
theorem c_L_free {l : Launch} {G : GX} (htr : l.stackTraces = false) {k n : Nat} {σ : St} {a0 : Nat} {x1 : Int32} {x2 : Int32} {a3 : Nat} {Q : Int32 → St → Prop} (ht : tvOk σ [(some a0, 12), (some a3, 23)]) (hw : w_L_free k n a0 x1 x2 a3 σ Q) : MIW l G 0 σ yL_free cL_free 5 (some .int) [(0, 10, 13, 13)] 3 k n [va_rf (some a0), .int x1, .int x2, va_rf (some a3)] Q := by
  unfold w_L_free at hw
  refine m_startW RL (by decide) htr ht (Nat.le_of_ble_eq_true rfl) rfl (lv := [(0, va_rf (some a0)), (1, .int x1), (2, .int x2), (3, va_rf (some a3))]) (d := 0) (fun p e s m args below meth c X hr hin htab => ?_)
  refine v_aload_n X 3 rfl (gD D_L_free_0 0 rfl) rfl ?_
  refine v_iconst X 0 (gD D_L_free_0 1 rfl) (by decide) ?_
  refine v_aload_n X 0 rfl (gD D_L_free_0 2 rfl) rfl ?_
  refine v_iload_n X 1 rfl (gD D_L_free_0 3 rfl) rfl ?_
  refine v_iload_n X 2 rfl (gD D_L_free_0 4 rfl) rfl ?_
  obtain ⟨k53, n54, k55, n56, h57, h58, hw⟩ := hw
  refine v_callXi X (As := [.int x1, .int x2]) (rest := [.int 0, va_rf (some a3)]) (nA := 2) k53 n54 k55 n56 (fun ht => c_X11_free htr (ht.sub [0] rfl) hw) (Or.inr rfl) 0 (κ := 12) rfl (by decide) (rfl : gCl[11]? = some (RX11, TX11, 19)) lk_vRL_41 (by decide +kernel) rfl rfl (by simp [rf_cat, ct_i]) (by decide) (by decide) h57 h58 (gD D_L_free_0 5 rfl) (fun u60 q59 s61 hy hx hf => ?_) (fun x51 s52 hq hx hf => ?_)
  · rcases hy with ⟨rfl, hw⟩
    refine ⟨_, gCat0 htab (by decide) (by decide) lk_xl_1 (by simp [gNB, exN]) rfl, ?_⟩
    replace hw := hw hx hf
    clear hx hf
    refine v_astore X [(4, va_rf (some q59)), (0, va_rf (some a0)), (1, .int x1), (2, .int x2), (3, va_rf (some a3))] (gD D_L_free_0 9 rfl) (by decide) rfl ?_
    refine v_iconst X 1 (gD D_L_free_0 10 rfl) (by decide) ?_
    exact v_iret X hr hw (gD D_L_free_0 11 rfl)
  replace hw := hq hx hf
  clear hq hx hf
  refine v_i2l X (gD D_L_free_0 6 rfl) ?_
  obtain ⟨h62, hw⟩ := hw
  refine v_last X 1 rfl rfl h62 (gD D_L_free_0 7 rfl) (fun s63 es63 => ?_)
  replace hw := hw s63 es63
  refine v_goto X 17 (gD D_L_free_0 8 rfl) (by decide) ?_
  refine v_iconst X 0 (gD D_L_free_0 12 rfl) (by decide) ?_
  exact v_iret X hr hw (gD D_L_free_0 13 rfl)
set_option maxRecDepth 100000 in
set_option maxHeartbeats 4000000 in
theorem c_L_lose {l : Launch} {G : GX} (htr : l.stackTraces = false) {k n : Nat} {σ : St} {a0 : Nat} {x1 : Int32} {x2 : Int32} {x3 : Int32} {a4 : Nat} {Q : Int32 → St → Prop} (ht : tvOk σ [(some a0, 12), (some a4, 23)]) (hw : w_L_lose k n a0 x1 x2 x3 a4 σ Q) : MIW l G 0 σ yL_lose cL_lose 6 (some .int) [(0, 12, 15, 13), (0, 12, 19, 15)] 3 k n [va_rf (some a0), .int x1, .int x2, .int x3, va_rf (some a4)] Q := by
  unfold w_L_lose at hw
  refine m_startW RL (by decide) htr ht (Nat.le_of_ble_eq_true rfl) rfl (lv := [(0, va_rf (some a0)), (1, .int x1), (2, .int x2), (3, .int x3), (4, va_rf (some a4))]) (d := 0) (fun p e s m args below meth c X hr hin htab => ?_)
  refine v_aload X 4 rfl (gD D_L_lose_0 0 rfl) ?_
  refine v_iconst X 0 (gD D_L_lose_0 1 rfl) (by decide) ?_
  refine v_aload_n X 0 rfl (gD D_L_lose_0 2 rfl) rfl ?_
  refine v_iload_n X 1 rfl (gD D_L_lose_0 3 rfl) rfl ?_
  refine v_iload_n X 2 rfl (gD D_L_lose_0 4 rfl) rfl ?_
  refine v_iload_n X 3 rfl (gD D_L_lose_0 5 rfl) rfl ?_
  obtain ⟨k53, n54, k55, n56, h57, h58, hw⟩ := hw
  refine v_callXi X (As := [.int x1, .int x2, .int x3]) (rest := [.int 0, va_rf (some a4)]) (nA := 3) k53 n54 k55 n56 (fun ht => c_X11_lose htr (ht.sub [0] rfl) hw) (Or.inr rfl) 0 (κ := 12) rfl (by decide) (rfl : gCl[11]? = some (RX11, TX11, 19)) lk_vRL_95 (by decide +kernel) rfl rfl (by simp [rf_cat, ct_i]) (by decide) (by decide) h57 h58 (gD D_L_lose_0 6 rfl) (fun u60 q59 s61 hy hx hf => ?_) (fun x51 s52 hq hx hf => ?_)
  · rcases hy with ⟨rfl, hw⟩ | ⟨rfl, hw⟩
    · refine ⟨_, gCat0 htab (by decide) (by decide) lk_xl_1 (by simp [gNB, exN]) rfl, ?_⟩
      replace hw := hw hx hf
      clear hx hf
      refine v_astore X [(5, va_rf (some q59)), (0, va_rf (some a0)), (1, .int x1), (2, .int x2), (3, .int x3), (4, va_rf (some a4))] (gD D_L_lose_0 10 rfl) (by decide) rfl ?_
      refine v_iconst X 1 (gD D_L_lose_0 11 rfl) (by decide) ?_
      exact v_iret X hr hw (gD D_L_lose_0 12 rfl)
    · refine ⟨_, gCat1 htab (by decide) lk_xl_1 (by simp [gNC, exN]) (by decide) (by decide) lk_xl_2 (by simp [gNB, exN]) rfl, ?_⟩
      replace hw := hw hx hf
      clear hx hf
      refine v_astore X [(5, va_rf (some q59)), (0, va_rf (some a0)), (1, .int x1), (2, .int x2), (3, .int x3), (4, va_rf (some a4))] (gD D_L_lose_0 13 rfl) (by decide) rfl ?_
      refine v_iconst X 2 (gD D_L_lose_0 14 rfl) (by decide) ?_
      exact v_iret X hr hw (gD D_L_lose_0 15 rfl)
  replace hw := hq hx hf
  clear hq hx hf
  refine v_i2l X (gD D_L_lose_0 7 rfl) ?_
  obtain ⟨h62, hw⟩ := hw
  refine v_last X 1 rfl rfl h62 (gD D_L_lose_0 8 rfl) (fun s63 es63 => ?_)
  replace hw := hw s63 es63
  refine v_goto X 23 (gD D_L_lose_0 9 rfl) (by decide) ?_
  refine v_iconst X 0 (gD D_L_lose_0 16 rfl) (by decide) ?_
  exact v_iret X hr hw (gD D_L_lose_0 17 rfl)
set_option maxRecDepth 100000 in
set_option maxHeartbeats 4000000 in
theorem c_L_received {l : Launch} {G : GX} (htr : l.stackTraces = false) {k n : Nat} {σ : St} {a0 : Nat} {x1 : Int32} {x2 : Int32} {a3 : Nat} {Q : Int32 → St → Prop} (ht : tvOk σ [(some a0, 12), (some a3, 23)]) (hw : w_L_received k n a0 x1 x2 a3 σ Q) : MIW l G 0 σ yL_received cL_received 5 (some .int) [(0, 10, 13, 13)] 3 k n [va_rf (some a0), .int x1, .int x2, va_rf (some a3)] Q := by
  unfold w_L_received at hw
  refine m_startW RL (by decide) htr ht (Nat.le_of_ble_eq_true rfl) rfl (lv := [(0, va_rf (some a0)), (1, .int x1), (2, .int x2), (3, va_rf (some a3))]) (d := 0) (fun p e s m args below meth c X hr hin htab => ?_)
  refine v_aload_n X 3 rfl (gD D_L_received_0 0 rfl) rfl ?_
  refine v_iconst X 0 (gD D_L_received_0 1 rfl) (by decide) ?_
  refine v_aload_n X 0 rfl (gD D_L_received_0 2 rfl) rfl ?_
  refine v_iload_n X 1 rfl (gD D_L_received_0 3 rfl) rfl ?_
  refine v_iload_n X 2 rfl (gD D_L_received_0 4 rfl) rfl ?_
  obtain ⟨k53, n54, k55, n56, h57, h58, hw⟩ := hw
  refine v_callXi X (As := [.int x1, .int x2]) (rest := [.int 0, va_rf (some a3)]) (nA := 2) k53 n54 k55 n56 (fun ht => c_X11_received htr (ht.sub [0] rfl) hw) (Or.inr rfl) 0 (κ := 12) rfl (by decide) (rfl : gCl[11]? = some (RX11, TX11, 19)) lk_vRL_116 (by decide +kernel) rfl rfl (by simp [rf_cat, ct_i]) (by decide) (by decide) h57 h58 (gD D_L_received_0 5 rfl) (fun u60 q59 s61 hy hx hf => ?_) (fun x51 s52 hq hx hf => ?_)
  · rcases hy with ⟨rfl, hw⟩
    refine ⟨_, gCat0 htab (by decide) (by decide) lk_xl_1 (by simp [gNB, exN]) rfl, ?_⟩
    replace hw := hw hx hf
    clear hx hf
    refine v_astore X [(4, va_rf (some q59)), (0, va_rf (some a0)), (1, .int x1), (2, .int x2), (3, va_rf (some a3))] (gD D_L_received_0 9 rfl) (by decide) rfl ?_
    refine v_iconst X 1 (gD D_L_received_0 10 rfl) (by decide) ?_
    exact v_iret X hr hw (gD D_L_received_0 11 rfl)
  replace hw := hq hx hf
  clear hq hx hf
  refine v_i2l X (gD D_L_received_0 6 rfl) ?_
  obtain ⟨h62, hw⟩ := hw
  refine v_last X 1 rfl rfl h62 (gD D_L_received_0 7 rfl) (fun s63 es63 => ?_)
  replace hw := hw s63 es63
  refine v_goto X 17 (gD D_L_received_0 8 rfl) (by decide) ?_
  refine v_iconst X 0 (gD D_L_received_0 12 rfl) (by decide) ?_
  exact v_iret X hr hw (gD D_L_received_0 13 rfl)
set_option maxRecDepth 100000 in
set_option maxHeartbeats 4000000 in
theorem c_L_room {l : Launch} {G : GX} (htr : l.stackTraces = false) {k n : Nat} {σ : St} {a0 : Nat} {x1 : Int32} {a2 : Nat} {Q : Int32 → St → Prop} (ht : tvOk σ [(some a0, 12), (some a2, 23)]) (hw : w_L_room k n a0 x1 a2 σ Q) : MIW l G 0 σ yL_room cL_room 4 (some .int) [(0, 9, 12, 13)] 3 k n [va_rf (some a0), .int x1, va_rf (some a2)] Q := by
  unfold w_L_room at hw
  refine m_startW RL (by decide) htr ht (Nat.le_of_ble_eq_true rfl) rfl (lv := [(0, va_rf (some a0)), (1, .int x1), (2, va_rf (some a2))]) (d := 0) (fun p e s m args below meth c X hr hin htab => ?_)
  refine v_aload_n X 2 rfl (gD D_L_room_0 0 rfl) rfl ?_
  refine v_iconst X 0 (gD D_L_room_0 1 rfl) (by decide) ?_
  refine v_aload_n X 0 rfl (gD D_L_room_0 2 rfl) rfl ?_
  refine v_iload_n X 1 rfl (gD D_L_room_0 3 rfl) rfl ?_
  obtain ⟨k53, n54, k55, n56, h57, h58, hw⟩ := hw
  refine v_callXi X (As := [.int x1]) (rest := [.int 0, va_rf (some a2)]) (nA := 1) k53 n54 k55 n56 (fun ht => c_X11_room htr (ht.sub [0] rfl) hw) (Or.inr rfl) 0 (κ := 12) rfl (by decide) (rfl : gCl[11]? = some (RX11, TX11, 19)) lk_vRL_44 (by decide +kernel) rfl rfl (by simp [rf_cat, ct_i]) (by decide) (by decide) h57 h58 (gD D_L_room_0 4 rfl) (fun u60 q59 s61 hy hx hf => ?_) (fun x51 s52 hq hx hf => ?_)
  · rcases hy with ⟨rfl, hw⟩
    refine ⟨_, gCat0 htab (by decide) (by decide) lk_xl_1 (by simp [gNB, exN]) rfl, ?_⟩
    replace hw := hw hx hf
    clear hx hf
    refine v_astore_n X [(3, va_rf (some q59)), (0, va_rf (some a0)), (1, .int x1), (2, va_rf (some a2))] (gD D_L_room_0 8 rfl) rfl (by decide) rfl ?_
    refine v_iconst X 1 (gD D_L_room_0 9 rfl) (by decide) ?_
    exact v_iret X hr hw (gD D_L_room_0 10 rfl)
  replace hw := hq hx hf
  clear hq hx hf
  refine v_i2l X (gD D_L_room_0 5 rfl) ?_
  obtain ⟨h62, hw⟩ := hw
  refine v_last X 1 rfl rfl h62 (gD D_L_room_0 6 rfl) (fun s63 es63 => ?_)
  replace hw := hw s63 es63
  refine v_goto X 15 (gD D_L_room_0 7 rfl) (by decide) ?_
  refine v_iconst X 0 (gD D_L_room_0 11 rfl) (by decide) ?_
  exact v_iret X hr hw (gD D_L_room_0 12 rfl)
set_option maxRecDepth 100000 in
set_option maxHeartbeats 4000000 in
theorem c_L_sent {l : Launch} {G : GX} (htr : l.stackTraces = false) {k n : Nat} {σ : St} {a0 : Nat} {x1 : Int32} {x2 : Int32} {a3 : Nat} {Q : Int32 → St → Prop} (ht : tvOk σ [(some a0, 12), (some a3, 23)]) (hw : w_L_sent k n a0 x1 x2 a3 σ Q) : MIW l G 0 σ yL_sent cL_sent 5 (some .int) [(0, 10, 13, 13)] 3 k n [va_rf (some a0), .int x1, .int x2, va_rf (some a3)] Q := by
  unfold w_L_sent at hw
  refine m_startW RL (by decide) htr ht (Nat.le_of_ble_eq_true rfl) rfl (lv := [(0, va_rf (some a0)), (1, .int x1), (2, .int x2), (3, va_rf (some a3))]) (d := 0) (fun p e s m args below meth c X hr hin htab => ?_)
  refine v_aload_n X 3 rfl (gD D_L_sent_0 0 rfl) rfl ?_
  refine v_iconst X 0 (gD D_L_sent_0 1 rfl) (by decide) ?_
  refine v_aload_n X 0 rfl (gD D_L_sent_0 2 rfl) rfl ?_
  refine v_iload_n X 1 rfl (gD D_L_sent_0 3 rfl) rfl ?_
  refine v_iload_n X 2 rfl (gD D_L_sent_0 4 rfl) rfl ?_
  obtain ⟨k53, n54, k55, n56, h57, h58, hw⟩ := hw
  refine v_callXi X (As := [.int x1, .int x2]) (rest := [.int 0, va_rf (some a3)]) (nA := 2) k53 n54 k55 n56 (fun ht => c_X11_sent htr (ht.sub [0] rfl) hw) (Or.inr rfl) 0 (κ := 12) rfl (by decide) (rfl : gCl[11]? = some (RX11, TX11, 19)) lk_vRL_113 (by decide +kernel) rfl rfl (by simp [rf_cat, ct_i]) (by decide) (by decide) h57 h58 (gD D_L_sent_0 5 rfl) (fun u60 q59 s61 hy hx hf => ?_) (fun x51 s52 hq hx hf => ?_)
  · rcases hy with ⟨rfl, hw⟩
    refine ⟨_, gCat0 htab (by decide) (by decide) lk_xl_1 (by simp [gNB, exN]) rfl, ?_⟩
    replace hw := hw hx hf
    clear hx hf
    refine v_astore X [(4, va_rf (some q59)), (0, va_rf (some a0)), (1, .int x1), (2, .int x2), (3, va_rf (some a3))] (gD D_L_sent_0 9 rfl) (by decide) rfl ?_
    refine v_iconst X 1 (gD D_L_sent_0 10 rfl) (by decide) ?_
    exact v_iret X hr hw (gD D_L_sent_0 11 rfl)
  replace hw := hq hx hf
  clear hq hx hf
  refine v_i2l X (gD D_L_sent_0 6 rfl) ?_
  obtain ⟨h62, hw⟩ := hw
  refine v_last X 1 rfl rfl h62 (gD D_L_sent_0 7 rfl) (fun s63 es63 => ?_)
  replace hw := hw s63 es63
  refine v_goto X 17 (gD D_L_sent_0 8 rfl) (by decide) ?_
  refine v_iconst X 0 (gD D_L_sent_0 12 rfl) (by decide) ?_
  exact v_iret X hr hw (gD D_L_sent_0 13 rfl)
set_option maxRecDepth 100000 in
set_option maxHeartbeats 4000000 in
theorem c_L_stock {l : Launch} {G : GX} (htr : l.stackTraces = false) {k n : Nat} {σ : St} {a0 : Nat} {x1 : Int32} {x2 : Int32} {a3 : Nat} {Q : Int32 → St → Prop} (ht : tvOk σ [(some a0, 12), (some a3, 23)]) (hw : w_L_stock k n a0 x1 x2 a3 σ Q) : MIW l G 0 σ yL_stock cL_stock 5 (some .int) [(0, 10, 13, 13)] 3 k n [va_rf (some a0), .int x1, .int x2, va_rf (some a3)] Q := by
  unfold w_L_stock at hw
  refine m_startW RL (by decide) htr ht (Nat.le_of_ble_eq_true rfl) rfl (lv := [(0, va_rf (some a0)), (1, .int x1), (2, .int x2), (3, va_rf (some a3))]) (d := 0) (fun p e s m args below meth c X hr hin htab => ?_)
  refine v_aload_n X 3 rfl (gD D_L_stock_0 0 rfl) rfl ?_
  refine v_iconst X 0 (gD D_L_stock_0 1 rfl) (by decide) ?_
  refine v_aload_n X 0 rfl (gD D_L_stock_0 2 rfl) rfl ?_
  refine v_iload_n X 1 rfl (gD D_L_stock_0 3 rfl) rfl ?_
  refine v_iload_n X 2 rfl (gD D_L_stock_0 4 rfl) rfl ?_
  obtain ⟨k53, n54, k55, n56, h57, h58, hw⟩ := hw
  refine v_callXi X (As := [.int x1, .int x2]) (rest := [.int 0, va_rf (some a3)]) (nA := 2) k53 n54 k55 n56 (fun ht => c_X11_stock htr (ht.sub [0] rfl) hw) (Or.inr rfl) 0 (κ := 12) rfl (by decide) (rfl : gCl[11]? = some (RX11, TX11, 19)) lk_vRL_35 (by decide +kernel) rfl rfl (by simp [rf_cat, ct_i]) (by decide) (by decide) h57 h58 (gD D_L_stock_0 5 rfl) (fun u60 q59 s61 hy hx hf => ?_) (fun x51 s52 hq hx hf => ?_)
  · rcases hy with ⟨rfl, hw⟩
    refine ⟨_, gCat0 htab (by decide) (by decide) lk_xl_1 (by simp [gNB, exN]) rfl, ?_⟩
    replace hw := hw hx hf
    clear hx hf
    refine v_astore X [(4, va_rf (some q59)), (0, va_rf (some a0)), (1, .int x1), (2, .int x2), (3, va_rf (some a3))] (gD D_L_stock_0 9 rfl) (by decide) rfl ?_
    refine v_iconst X 1 (gD D_L_stock_0 10 rfl) (by decide) ?_
    exact v_iret X hr hw (gD D_L_stock_0 11 rfl)
  replace hw := hq hx hf
  clear hq hx hf
  refine v_i2l X (gD D_L_stock_0 6 rfl) ?_
  obtain ⟨h62, hw⟩ := hw
  refine v_last X 1 rfl rfl h62 (gD D_L_stock_0 7 rfl) (fun s63 es63 => ?_)
  replace hw := hw s63 es63
  refine v_goto X 17 (gD D_L_stock_0 8 rfl) (by decide) ?_
  refine v_iconst X 0 (gD D_L_stock_0 12 rfl) (by decide) ?_
  exact v_iret X hr hw (gD D_L_stock_0 13 rfl)
set_option maxRecDepth 100000 in
set_option maxHeartbeats 4000000 in
theorem c_L_stockAnew {l : Launch} {G : GX} (htr : l.stackTraces = false) {k n : Nat} {σ : St} {a0 : Nat} {x1 : Int32} {x2 : Int32} {a3 : Nat} {Q : Int32 → St → Prop} (ht : tvOk σ [(some a0, 12), (some a3, 23)]) (hw : w_L_stockAnew k n a0 x1 x2 a3 σ Q) : MIW l G 0 σ yL_stockAnew cL_stockAnew 5 (some .int) [(0, 10, 13, 13)] 3 k n [va_rf (some a0), .int x1, .int x2, va_rf (some a3)] Q := by
  unfold w_L_stockAnew at hw
  refine m_startW RL (by decide) htr ht (Nat.le_of_ble_eq_true rfl) rfl (lv := [(0, va_rf (some a0)), (1, .int x1), (2, .int x2), (3, va_rf (some a3))]) (d := 0) (fun p e s m args below meth c X hr hin htab => ?_)
  refine v_aload_n X 3 rfl (gD D_L_stockAnew_0 0 rfl) rfl ?_
  refine v_iconst X 0 (gD D_L_stockAnew_0 1 rfl) (by decide) ?_
  refine v_aload_n X 0 rfl (gD D_L_stockAnew_0 2 rfl) rfl ?_
  refine v_iload_n X 1 rfl (gD D_L_stockAnew_0 3 rfl) rfl ?_
  refine v_iload_n X 2 rfl (gD D_L_stockAnew_0 4 rfl) rfl ?_
  obtain ⟨k53, n54, k55, n56, h57, h58, hw⟩ := hw
  refine v_callXi X (As := [.int x1, .int x2]) (rest := [.int 0, va_rf (some a3)]) (nA := 2) k53 n54 k55 n56 (fun ht => c_X11_stockAnew htr (ht.sub [0] rfl) hw) (Or.inr rfl) 0 (κ := 12) rfl (by decide) (rfl : gCl[11]? = some (RX11, TX11, 19)) lk_vRL_38 (by decide +kernel) rfl rfl (by simp [rf_cat, ct_i]) (by decide) (by decide) h57 h58 (gD D_L_stockAnew_0 5 rfl) (fun u60 q59 s61 hy hx hf => ?_) (fun x51 s52 hq hx hf => ?_)
  · rcases hy with ⟨rfl, hw⟩
    refine ⟨_, gCat0 htab (by decide) (by decide) lk_xl_1 (by simp [gNB, exN]) rfl, ?_⟩
    replace hw := hw hx hf
    clear hx hf
    refine v_astore X [(4, va_rf (some q59)), (0, va_rf (some a0)), (1, .int x1), (2, .int x2), (3, va_rf (some a3))] (gD D_L_stockAnew_0 9 rfl) (by decide) rfl ?_
    refine v_iconst X 1 (gD D_L_stockAnew_0 10 rfl) (by decide) ?_
    exact v_iret X hr hw (gD D_L_stockAnew_0 11 rfl)
  replace hw := hq hx hf
  clear hq hx hf
  refine v_i2l X (gD D_L_stockAnew_0 6 rfl) ?_
  obtain ⟨h62, hw⟩ := hw
  refine v_last X 1 rfl rfl h62 (gD D_L_stockAnew_0 7 rfl) (fun s63 es63 => ?_)
  replace hw := hw s63 es63
  refine v_goto X 17 (gD D_L_stockAnew_0 8 rfl) (by decide) ?_
  refine v_iconst X 0 (gD D_L_stockAnew_0 12 rfl) (by decide) ?_
  exact v_iret X hr hw (gD D_L_stockAnew_0 13 rfl)
set_option maxRecDepth 100000 in
set_option maxHeartbeats 4000000 in
theorem c_L_face {l : Launch} {G : GX} (htr : l.stackTraces = false) {k n : Nat} {σ : St} {a0 : Nat} {x1 : Int32} {x2 : Int32} {x3 : Int32} {x4 : Int32} {Q : Int32 → St → Prop} (ht : tvOk σ [(some a0, 12)]) (hw : w_L_face k n a0 x1 x2 x3 x4 σ Q) : MIW l G 0 σ yL_face cL_face 6 (some .int) [(0, 9, 12, 13), (0, 9, 16, 15), (0, 9, 20, 17)] 4 k n [va_rf (some a0), .int x1, .int x2, .int x3, .int x4] Q := by
  unfold w_L_face at hw
  refine m_startW RL (by decide) htr ht (Nat.le_of_ble_eq_true rfl) rfl (lv := [(0, va_rf (some a0)), (1, .int x1), (2, .int x2), (3, .int x3), (4, .int x4)]) (d := 0) (fun p e s m args below meth c X hr hin htab => ?_)
  refine v_aload_n X 0 rfl (gD D_L_face_0 0 rfl) rfl ?_
  refine v_iload_n X 1 rfl (gD D_L_face_0 1 rfl) rfl ?_
  refine v_iload_n X 2 rfl (gD D_L_face_0 2 rfl) rfl ?_
  refine v_iload_n X 3 rfl (gD D_L_face_0 3 rfl) rfl ?_
  refine v_iload X 4 rfl (gD D_L_face_0 4 rfl) ?_
  obtain ⟨k53, n54, k55, n56, h57, h58, hw⟩ := hw
  refine v_callXv X (As := [.int x1, .int x2, .int x3, .int x4]) (rest := []) (nA := 4) k53 n54 k55 n56 (fun ht => c_X11_face htr (ht.sub [0] rfl) hw) (Or.inr rfl) 0 (κ := 12) rfl (by decide) (rfl : gCl[11]? = some (RX11, TX11, 19)) lk_vRL_19 (by decide +kernel) rfl rfl (by decide) (by decide) (by decide) h57 h58 (gD D_L_face_0 5 rfl) (fun u60 q59 s61 hy hx hf => ?_) (fun s52 hq hx hf => ?_)
  · rcases hy with ⟨rfl, hw⟩ | ⟨rfl, hw⟩ | ⟨rfl, hw⟩
    · refine ⟨_, gCat0 htab (by decide) (by decide) lk_xl_1 (by simp [gNB, exN]) rfl, ?_⟩
      replace hw := hw hx hf
      clear hx hf
      refine v_astore X [(5, va_rf (some q59)), (0, va_rf (some a0)), (1, .int x1), (2, .int x2), (3, .int x3), (4, .int x4)] (gD D_L_face_0 7 rfl) (by decide) rfl ?_
      refine v_iconst X 1 (gD D_L_face_0 8 rfl) (by decide) ?_
      exact v_iret X hr hw (gD D_L_face_0 9 rfl)
    · refine ⟨_, gCat1 htab (by decide) lk_xl_1 (by simp [gNC, exN]) (by decide) (by decide) lk_xl_2 (by simp [gNB, exN]) rfl, ?_⟩
      replace hw := hw hx hf
      clear hx hf
      refine v_astore X [(5, va_rf (some q59)), (0, va_rf (some a0)), (1, .int x1), (2, .int x2), (3, .int x3), (4, .int x4)] (gD D_L_face_0 10 rfl) (by decide) rfl ?_
      refine v_iconst X 2 (gD D_L_face_0 11 rfl) (by decide) ?_
      exact v_iret X hr hw (gD D_L_face_0 12 rfl)
    · refine ⟨_, gCat2 htab (by decide) lk_xl_1 (by simp [gNC, exN]) (by decide) lk_xl_2 (by simp [gNC, exN]) (by decide) (by decide) lk_xl_3 (by simp [gNB, exN]) rfl, ?_⟩
      replace hw := hw hx hf
      clear hx hf
      refine v_astore X [(5, va_rf (some q59)), (0, va_rf (some a0)), (1, .int x1), (2, .int x2), (3, .int x3), (4, .int x4)] (gD D_L_face_0 13 rfl) (by decide) rfl ?_
      refine v_iconst X 3 (gD D_L_face_0 14 rfl) (by decide) ?_
      exact v_iret X hr hw (gD D_L_face_0 15 rfl)
  replace hw := hq hx hf
  clear hq hx hf
  refine v_goto X 24 (gD D_L_face_0 6 rfl) (by decide) ?_
  refine v_iconst X 0 (gD D_L_face_0 16 rfl) (by decide) ?_
  exact v_iret X hr hw (gD D_L_face_0 17 rfl)
set_option maxRecDepth 100000 in
set_option maxHeartbeats 4000000 in
theorem c_L_held {l : Launch} {G : GX} (htr : l.stackTraces = false) {k n : Nat} {σ : St} {a0 : Nat} {x1 : Int32} {x2 : Int32} {x3 : Int32} {a4 : Nat} {Q : Int32 → St → Prop} (ht : tvOk σ [(some a0, 12), (some a4, 23)]) (hw : w_L_held k n a0 x1 x2 x3 a4 σ Q) : MIW l G 0 σ yL_held cL_held 6 (some .int) [(0, 12, 15, 13)] 4 k n [va_rf (some a0), .int x1, .int x2, .int x3, va_rf (some a4)] Q := by
  unfold w_L_held at hw
  refine m_startW RL (by decide) htr ht (Nat.le_of_ble_eq_true rfl) rfl (lv := [(0, va_rf (some a0)), (1, .int x1), (2, .int x2), (3, .int x3), (4, va_rf (some a4))]) (d := 0) (fun p e s m args below meth c X hr hin htab => ?_)
  refine v_aload X 4 rfl (gD D_L_held_0 0 rfl) ?_
  refine v_iconst X 0 (gD D_L_held_0 1 rfl) (by decide) ?_
  refine v_aload_n X 0 rfl (gD D_L_held_0 2 rfl) rfl ?_
  refine v_iload_n X 1 rfl (gD D_L_held_0 3 rfl) rfl ?_
  refine v_iload_n X 2 rfl (gD D_L_held_0 4 rfl) rfl ?_
  refine v_iload_n X 3 rfl (gD D_L_held_0 5 rfl) rfl ?_
  obtain ⟨k53, n54, k55, n56, h57, h58, hw⟩ := hw
  refine v_callXi X (As := [.int x1, .int x2, .int x3]) (rest := [.int 0, va_rf (some a4)]) (nA := 3) k53 n54 k55 n56 (fun ht => c_X11_held htr (ht.sub [0] rfl) hw) (Or.inr rfl) 0 (κ := 12) rfl (by decide) (rfl : gCl[11]? = some (RX11, TX11, 19)) lk_vRL_74 (by decide +kernel) rfl rfl (by simp [rf_cat, ct_i]) (by decide) (by decide) h57 h58 (gD D_L_held_0 6 rfl) (fun u60 q59 s61 hy hx hf => ?_) (fun x51 s52 hq hx hf => ?_)
  · rcases hy with ⟨rfl, hw⟩
    refine ⟨_, gCat0 htab (by decide) (by decide) lk_xl_1 (by simp [gNB, exN]) rfl, ?_⟩
    replace hw := hw hx hf
    clear hx hf
    refine v_astore X [(5, va_rf (some q59)), (0, va_rf (some a0)), (1, .int x1), (2, .int x2), (3, .int x3), (4, va_rf (some a4))] (gD D_L_held_0 10 rfl) (by decide) rfl ?_
    refine v_iconst X 1 (gD D_L_held_0 11 rfl) (by decide) ?_
    exact v_iret X hr hw (gD D_L_held_0 12 rfl)
  replace hw := hq hx hf
  clear hq hx hf
  refine v_i2l X (gD D_L_held_0 7 rfl) ?_
  obtain ⟨h62, hw⟩ := hw
  refine v_last X 1 rfl rfl h62 (gD D_L_held_0 8 rfl) (fun s63 es63 => ?_)
  replace hw := hw s63 es63
  refine v_goto X 19 (gD D_L_held_0 9 rfl) (by decide) ?_
  refine v_iconst X 0 (gD D_L_held_0 13 rfl) (by decide) ?_
  exact v_iret X hr hw (gD D_L_held_0 14 rfl)
set_option maxRecDepth 100000 in
set_option maxHeartbeats 4000000 in
theorem c_L_lacks {l : Launch} {G : GX} (htr : l.stackTraces = false) {k n : Nat} {σ : St} {a0 : Nat} {x1 : Int32} {x2 : Int32} {a3 : Nat} {Q : Int32 → St → Prop} (ht : tvOk σ [(some a0, 12), (some a3, 23)]) (hw : w_L_lacks k n a0 x1 x2 a3 σ Q) : MIW l G 0 σ yL_lacks cL_lacks 5 (some .int) [(0, 10, 13, 13)] 4 k n [va_rf (some a0), .int x1, .int x2, va_rf (some a3)] Q := by
  unfold w_L_lacks at hw
  refine m_startW RL (by decide) htr ht (Nat.le_of_ble_eq_true rfl) rfl (lv := [(0, va_rf (some a0)), (1, .int x1), (2, .int x2), (3, va_rf (some a3))]) (d := 0) (fun p e s m args below meth c X hr hin htab => ?_)
  refine v_aload_n X 3 rfl (gD D_L_lacks_0 0 rfl) rfl ?_
  refine v_iconst X 0 (gD D_L_lacks_0 1 rfl) (by decide) ?_
  refine v_aload_n X 0 rfl (gD D_L_lacks_0 2 rfl) rfl ?_
  refine v_iload_n X 1 rfl (gD D_L_lacks_0 3 rfl) rfl ?_
  refine v_iload_n X 2 rfl (gD D_L_lacks_0 4 rfl) rfl ?_
  obtain ⟨k53, n54, k55, n56, h57, h58, hw⟩ := hw
  refine v_callXi X (As := [.int x1, .int x2]) (rest := [.int 0, va_rf (some a3)]) (nA := 2) k53 n54 k55 n56 (fun ht => c_X11_lacks htr (ht.sub [0] rfl) hw) (Or.inr rfl) 0 (κ := 12) rfl (by decide) (rfl : gCl[11]? = some (RX11, TX11, 19)) lk_vRL_71 (by decide +kernel) rfl rfl (by simp [rf_cat, ct_i]) (by decide) (by decide) h57 h58 (gD D_L_lacks_0 5 rfl) (fun u60 q59 s61 hy hx hf => ?_) (fun x51 s52 hq hx hf => ?_)
  · rcases hy with ⟨rfl, hw⟩
    refine ⟨_, gCat0 htab (by decide) (by decide) lk_xl_1 (by simp [gNB, exN]) rfl, ?_⟩
    replace hw := hw hx hf
    clear hx hf
    refine v_astore X [(4, va_rf (some q59)), (0, va_rf (some a0)), (1, .int x1), (2, .int x2), (3, va_rf (some a3))] (gD D_L_lacks_0 9 rfl) (by decide) rfl ?_
    refine v_iconst X 1 (gD D_L_lacks_0 10 rfl) (by decide) ?_
    exact v_iret X hr hw (gD D_L_lacks_0 11 rfl)
  replace hw := hq hx hf
  clear hq hx hf
  refine v_i2l X (gD D_L_lacks_0 6 rfl) ?_
  obtain ⟨h62, hw⟩ := hw
  refine v_last X 1 rfl rfl h62 (gD D_L_lacks_0 7 rfl) (fun s63 es63 => ?_)
  replace hw := hw s63 es63
  refine v_goto X 17 (gD D_L_lacks_0 8 rfl) (by decide) ?_
  refine v_iconst X 0 (gD D_L_lacks_0 12 rfl) (by decide) ?_
  exact v_iret X hr hw (gD D_L_lacks_0 13 rfl)
set_option maxRecDepth 100000 in
set_option maxHeartbeats 4000000 in
theorem c_L_slot {l : Launch} {G : GX} (htr : l.stackTraces = false) {k n : Nat} {σ : St} {a0 : Nat} {x1 : Int32} {x2 : Int32} {x3 : Int32} {Q : Int32 → St → Prop} (ht : tvOk σ [(some a0, 12)]) (hw : w_L_slot k n a0 x1 x2 x3 σ Q) : MIW l G 0 σ yL_slot cL_slot 5 (some .int) [(0, 7, 10, 13), (0, 7, 14, 15), (0, 7, 18, 17)] 4 k n [va_rf (some a0), .int x1, .int x2, .int x3] Q := by
  unfold w_L_slot at hw
  refine m_startW RL (by decide) htr ht (Nat.le_of_ble_eq_true rfl) rfl (lv := [(0, va_rf (some a0)), (1, .int x1), (2, .int x2), (3, .int x3)]) (d := 0) (fun p e s m args below meth c X hr hin htab => ?_)
  refine v_aload_n X 0 rfl (gD D_L_slot_0 0 rfl) rfl ?_
  refine v_iload_n X 1 rfl (gD D_L_slot_0 1 rfl) rfl ?_
  refine v_iload_n X 2 rfl (gD D_L_slot_0 2 rfl) rfl ?_
  refine v_iload_n X 3 rfl (gD D_L_slot_0 3 rfl) rfl ?_
  obtain ⟨k53, n54, k55, n56, h57, h58, hw⟩ := hw
  refine v_callXv X (As := [.int x1, .int x2, .int x3]) (rest := []) (nA := 3) k53 n54 k55 n56 (fun ht => c_X11_slot htr (ht.sub [0] rfl) hw) (Or.inr rfl) 0 (κ := 12) rfl (by decide) (rfl : gCl[11]? = some (RX11, TX11, 19)) lk_vRL_7 (by decide +kernel) rfl rfl (by decide) (by decide) (by decide) h57 h58 (gD D_L_slot_0 4 rfl) (fun u60 q59 s61 hy hx hf => ?_) (fun s52 hq hx hf => ?_)
  · rcases hy with ⟨rfl, hw⟩ | ⟨rfl, hw⟩ | ⟨rfl, hw⟩
    · refine ⟨_, gCat0 htab (by decide) (by decide) lk_xl_1 (by simp [gNB, exN]) rfl, ?_⟩
      replace hw := hw hx hf
      clear hx hf
      refine v_astore X [(4, va_rf (some q59)), (0, va_rf (some a0)), (1, .int x1), (2, .int x2), (3, .int x3)] (gD D_L_slot_0 6 rfl) (by decide) rfl ?_
      refine v_iconst X 1 (gD D_L_slot_0 7 rfl) (by decide) ?_
      exact v_iret X hr hw (gD D_L_slot_0 8 rfl)
    · refine ⟨_, gCat1 htab (by decide) lk_xl_1 (by simp [gNC, exN]) (by decide) (by decide) lk_xl_2 (by simp [gNB, exN]) rfl, ?_⟩
      replace hw := hw hx hf
      clear hx hf
      refine v_astore X [(4, va_rf (some q59)), (0, va_rf (some a0)), (1, .int x1), (2, .int x2), (3, .int x3)] (gD D_L_slot_0 9 rfl) (by decide) rfl ?_
      refine v_iconst X 2 (gD D_L_slot_0 10 rfl) (by decide) ?_
      exact v_iret X hr hw (gD D_L_slot_0 11 rfl)
    · refine ⟨_, gCat2 htab (by decide) lk_xl_1 (by simp [gNC, exN]) (by decide) lk_xl_2 (by simp [gNC, exN]) (by decide) (by decide) lk_xl_3 (by simp [gNB, exN]) rfl, ?_⟩
      replace hw := hw hx hf
      clear hx hf
      refine v_astore X [(4, va_rf (some q59)), (0, va_rf (some a0)), (1, .int x1), (2, .int x2), (3, .int x3)] (gD D_L_slot_0 12 rfl) (by decide) rfl ?_
      refine v_iconst X 3 (gD D_L_slot_0 13 rfl) (by decide) ?_
      exact v_iret X hr hw (gD D_L_slot_0 14 rfl)
  replace hw := hq hx hf
  clear hq hx hf
  refine v_goto X 22 (gD D_L_slot_0 5 rfl) (by decide) ?_
  refine v_iconst X 0 (gD D_L_slot_0 15 rfl) (by decide) ?_
  exact v_iret X hr hw (gD D_L_slot_0 16 rfl)
set_option maxRecDepth 100000 in
set_option maxHeartbeats 4000000 in
theorem c_L_taskAt {l : Launch} {G : GX} (htr : l.stackTraces = false) {k n : Nat} {σ : St} {a0 : Nat} {x1 : Int32} {a2 : Nat} {Q : Int32 → St → Prop} (ht : tvOk σ [(some a0, 12), (some a2, 23)]) (hw : w_L_taskAt k n a0 x1 a2 σ Q) : MIW l G 0 σ yL_taskAt cL_taskAt 4 (some .int) [(0, 9, 12, 13)] 4 k n [va_rf (some a0), .int x1, va_rf (some a2)] Q := by
  unfold w_L_taskAt at hw
  refine m_startW RL (by decide) htr ht (Nat.le_of_ble_eq_true rfl) rfl (lv := [(0, va_rf (some a0)), (1, .int x1), (2, va_rf (some a2))]) (d := 0) (fun p e s m args below meth c X hr hin htab => ?_)
  refine v_aload_n X 2 rfl (gD D_L_taskAt_0 0 rfl) rfl ?_
  refine v_iconst X 0 (gD D_L_taskAt_0 1 rfl) (by decide) ?_
  refine v_aload_n X 0 rfl (gD D_L_taskAt_0 2 rfl) rfl ?_
  refine v_iload_n X 1 rfl (gD D_L_taskAt_0 3 rfl) rfl ?_
  obtain ⟨k53, n54, k55, n56, h57, h58, hw⟩ := hw
  refine v_callXi X (As := [.int x1]) (rest := [.int 0, va_rf (some a2)]) (nA := 1) k53 n54 k55 n56 (fun ht => c_X11_taskAt htr (ht.sub [0] rfl) hw) (Or.inr rfl) 0 (κ := 12) rfl (by decide) (rfl : gCl[11]? = some (RX11, TX11, 19)) lk_vRL_92 (by decide +kernel) rfl rfl (by simp [rf_cat, ct_i]) (by decide) (by decide) h57 h58 (gD D_L_taskAt_0 4 rfl) (fun u60 q59 s61 hy hx hf => ?_) (fun x51 s52 hq hx hf => ?_)
  · rcases hy with ⟨rfl, hw⟩
    refine ⟨_, gCat0 htab (by decide) (by decide) lk_xl_1 (by simp [gNB, exN]) rfl, ?_⟩
    replace hw := hw hx hf
    clear hx hf
    refine v_astore_n X [(3, va_rf (some q59)), (0, va_rf (some a0)), (1, .int x1), (2, va_rf (some a2))] (gD D_L_taskAt_0 8 rfl) rfl (by decide) rfl ?_
    refine v_iconst X 1 (gD D_L_taskAt_0 9 rfl) (by decide) ?_
    exact v_iret X hr hw (gD D_L_taskAt_0 10 rfl)
  replace hw := hq hx hf
  clear hq hx hf
  refine v_i2l X (gD D_L_taskAt_0 5 rfl) ?_
  obtain ⟨h62, hw⟩ := hw
  refine v_last X 1 rfl rfl h62 (gD D_L_taskAt_0 6 rfl) (fun s63 es63 => ?_)
  replace hw := hw s63 es63
  refine v_goto X 15 (gD D_L_taskAt_0 7 rfl) (by decide) ?_
  refine v_iconst X 0 (gD D_L_taskAt_0 11 rfl) (by decide) ?_
  exact v_iret X hr hw (gD D_L_taskAt_0 12 rfl)
set_option maxRecDepth 100000 in
set_option maxHeartbeats 4000000 in
theorem c_L_boxAt {l : Launch} {G : GX} (htr : l.stackTraces = false) {k n : Nat} {σ : St} {a0 : Nat} {x1 : Int32} {x2 : Int32} {a3 : Nat} {Q : Int32 → St → Prop} (ht : tvOk σ [(some a0, 12), (some a3, 23)]) (hw : w_L_boxAt k n a0 x1 x2 a3 σ Q) : MIW l G 0 σ yL_boxAt cL_boxAt 5 (some .int) [(0, 10, 13, 13)] 5 k n [va_rf (some a0), .int x1, .int x2, va_rf (some a3)] Q := by
  unfold w_L_boxAt at hw
  refine m_startW RL (by decide) htr ht (Nat.le_of_ble_eq_true rfl) rfl (lv := [(0, va_rf (some a0)), (1, .int x1), (2, .int x2), (3, va_rf (some a3))]) (d := 0) (fun p e s m args below meth c X hr hin htab => ?_)
  refine v_aload_n X 3 rfl (gD D_L_boxAt_0 0 rfl) rfl ?_
  refine v_iconst X 0 (gD D_L_boxAt_0 1 rfl) (by decide) ?_
  refine v_aload_n X 0 rfl (gD D_L_boxAt_0 2 rfl) rfl ?_
  refine v_iload_n X 1 rfl (gD D_L_boxAt_0 3 rfl) rfl ?_
  refine v_iload_n X 2 rfl (gD D_L_boxAt_0 4 rfl) rfl ?_
  obtain ⟨k53, n54, k55, n56, h57, h58, hw⟩ := hw
  refine v_callXi X (As := [.int x1, .int x2]) (rest := [.int 0, va_rf (some a3)]) (nA := 2) k53 n54 k55 n56 (fun ht => c_X11_boxAt htr (ht.sub [0] rfl) hw) (Or.inr rfl) 0 (κ := 12) rfl (by decide) (rfl : gCl[11]? = some (RX11, TX11, 19)) lk_vRL_107 (by decide +kernel) rfl rfl (by simp [rf_cat, ct_i]) (by decide) (by decide) h57 h58 (gD D_L_boxAt_0 5 rfl) (fun u60 q59 s61 hy hx hf => ?_) (fun x51 s52 hq hx hf => ?_)
  · rcases hy with ⟨rfl, hw⟩
    refine ⟨_, gCat0 htab (by decide) (by decide) lk_xl_1 (by simp [gNB, exN]) rfl, ?_⟩
    replace hw := hw hx hf
    clear hx hf
    refine v_astore X [(4, va_rf (some q59)), (0, va_rf (some a0)), (1, .int x1), (2, .int x2), (3, va_rf (some a3))] (gD D_L_boxAt_0 9 rfl) (by decide) rfl ?_
    refine v_iconst X 1 (gD D_L_boxAt_0 10 rfl) (by decide) ?_
    exact v_iret X hr hw (gD D_L_boxAt_0 11 rfl)
  replace hw := hq hx hf
  clear hq hx hf
  refine v_i2l X (gD D_L_boxAt_0 6 rfl) ?_
  obtain ⟨h62, hw⟩ := hw
  refine v_last X 1 rfl rfl h62 (gD D_L_boxAt_0 7 rfl) (fun s63 es63 => ?_)
  replace hw := hw s63 es63
  refine v_goto X 17 (gD D_L_boxAt_0 8 rfl) (by decide) ?_
  refine v_iconst X 0 (gD D_L_boxAt_0 12 rfl) (by decide) ?_
  exact v_iret X hr hw (gD D_L_boxAt_0 13 rfl)
set_option maxRecDepth 100000 in
set_option maxHeartbeats 4000000 in
theorem c_L_boxes {l : Launch} {G : GX} (htr : l.stackTraces = false) {k n : Nat} {σ : St} {a0 : Nat} {x1 : Int32} {a2 : Nat} {Q : Int32 → St → Prop} (ht : tvOk σ [(some a0, 12), (some a2, 23)]) (hw : w_L_boxes k n a0 x1 a2 σ Q) : MIW l G 0 σ yL_boxes cL_boxes 4 (some .int) [(0, 9, 12, 13)] 5 k n [va_rf (some a0), .int x1, va_rf (some a2)] Q := by
  unfold w_L_boxes at hw
  refine m_startW RL (by decide) htr ht (Nat.le_of_ble_eq_true rfl) rfl (lv := [(0, va_rf (some a0)), (1, .int x1), (2, va_rf (some a2))]) (d := 0) (fun p e s m args below meth c X hr hin htab => ?_)
  refine v_aload_n X 2 rfl (gD D_L_boxes_0 0 rfl) rfl ?_
  refine v_iconst X 0 (gD D_L_boxes_0 1 rfl) (by decide) ?_
  refine v_aload_n X 0 rfl (gD D_L_boxes_0 2 rfl) rfl ?_
  refine v_iload_n X 1 rfl (gD D_L_boxes_0 3 rfl) rfl ?_
  obtain ⟨k53, n54, k55, n56, h57, h58, hw⟩ := hw
  refine v_callXi X (As := [.int x1]) (rest := [.int 0, va_rf (some a2)]) (nA := 1) k53 n54 k55 n56 (fun ht => c_X11_boxes htr (ht.sub [0] rfl) hw) (Or.inr rfl) 0 (κ := 12) rfl (by decide) (rfl : gCl[11]? = some (RX11, TX11, 19)) lk_vRL_104 (by decide +kernel) rfl rfl (by simp [rf_cat, ct_i]) (by decide) (by decide) h57 h58 (gD D_L_boxes_0 4 rfl) (fun u60 q59 s61 hy hx hf => ?_) (fun x51 s52 hq hx hf => ?_)
  · rcases hy with ⟨rfl, hw⟩
    refine ⟨_, gCat0 htab (by decide) (by decide) lk_xl_1 (by simp [gNB, exN]) rfl, ?_⟩
    replace hw := hw hx hf
    clear hx hf
    refine v_astore_n X [(3, va_rf (some q59)), (0, va_rf (some a0)), (1, .int x1), (2, va_rf (some a2))] (gD D_L_boxes_0 8 rfl) rfl (by decide) rfl ?_
    refine v_iconst X 1 (gD D_L_boxes_0 9 rfl) (by decide) ?_
    exact v_iret X hr hw (gD D_L_boxes_0 10 rfl)
  replace hw := hq hx hf
  clear hq hx hf
  refine v_i2l X (gD D_L_boxes_0 5 rfl) ?_
  obtain ⟨h62, hw⟩ := hw
  refine v_last X 1 rfl rfl h62 (gD D_L_boxes_0 6 rfl) (fun s63 es63 => ?_)
  replace hw := hw s63 es63
  refine v_goto X 15 (gD D_L_boxes_0 7 rfl) (by decide) ?_
  refine v_iconst X 0 (gD D_L_boxes_0 11 rfl) (by decide) ?_
  exact v_iret X hr hw (gD D_L_boxes_0 12 rfl)
set_option maxRecDepth 100000 in
set_option maxHeartbeats 4000000 in
theorem c_L_close {l : Launch} {G : GX} (htr : l.stackTraces = false) {k n : Nat} {σ : St} {a0 : Nat} {x1 : Int32} {a2 : Nat} {Q : Int32 → St → Prop} (ht : tvOk σ [(some a0, 12), (some a2, 23)]) (hw : w_L_close k n a0 x1 a2 σ Q) : MIW l G 0 σ yL_close cL_close 4 (some .int) [(0, 9, 12, 13), (0, 9, 15, 17)] 5 k n [va_rf (some a0), .int x1, va_rf (some a2)] Q := by
  unfold w_L_close at hw
  refine m_startW RL (by decide) htr ht (Nat.le_of_ble_eq_true rfl) rfl (lv := [(0, va_rf (some a0)), (1, .int x1), (2, va_rf (some a2))]) (d := 0) (fun p e s m args below meth c X hr hin htab => ?_)
  refine v_aload_n X 2 rfl (gD D_L_close_0 0 rfl) rfl ?_
  refine v_iconst X 0 (gD D_L_close_0 1 rfl) (by decide) ?_
  refine v_aload_n X 0 rfl (gD D_L_close_0 2 rfl) rfl ?_
  refine v_iload_n X 1 rfl (gD D_L_close_0 3 rfl) rfl ?_
  obtain ⟨k53, n54, k55, n56, h57, h58, hw⟩ := hw
  refine v_callXi X (As := [.int x1]) (rest := [.int 0, va_rf (some a2)]) (nA := 1) k53 n54 k55 n56 (fun ht => c_X11_close htr (ht.sub [0] rfl) hw) (Or.inr rfl) 0 (κ := 12) rfl (by decide) (rfl : gCl[11]? = some (RX11, TX11, 19)) lk_vRL_55 (by decide +kernel) rfl rfl (by simp [rf_cat, ct_i]) (by decide) (by decide) h57 h58 (gD D_L_close_0 4 rfl) (fun u60 q59 s61 hy hx hf => ?_) (fun x51 s52 hq hx hf => ?_)
  · rcases hy with ⟨rfl, hw⟩ | ⟨rfl, hw⟩
    · refine ⟨_, gCat0 htab (by decide) (by decide) lk_xl_1 (by simp [gNB, exN]) rfl, ?_⟩
      replace hw := hw hx hf
      clear hx hf
      refine v_astore_n X [(3, va_rf (some q59)), (0, va_rf (some a0)), (1, .int x1), (2, va_rf (some a2))] (gD D_L_close_0 8 rfl) rfl (by decide) rfl ?_
      refine v_iconst X 1 (gD D_L_close_0 9 rfl) (by decide) ?_
      exact v_iret X hr hw (gD D_L_close_0 10 rfl)
    · refine ⟨_, gCat1 htab (by decide) lk_xl_1 (by simp [gNC, exN]) (by decide) (by decide) lk_xl_3 (by simp [gNB, exN]) rfl, ?_⟩
      replace hw := hw hx hf
      clear hx hf
      refine v_astore_n X [(3, va_rf (some q59)), (0, va_rf (some a0)), (1, .int x1), (2, va_rf (some a2))] (gD D_L_close_0 11 rfl) rfl (by decide) rfl ?_
      refine v_iconst X 2 (gD D_L_close_0 12 rfl) (by decide) ?_
      exact v_iret X hr hw (gD D_L_close_0 13 rfl)
  replace hw := hq hx hf
  clear hq hx hf
  refine v_i2l X (gD D_L_close_0 5 rfl) ?_
  obtain ⟨h62, hw⟩ := hw
  refine v_last X 1 rfl rfl h62 (gD D_L_close_0 6 rfl) (fun s63 es63 => ?_)
  replace hw := hw s63 es63
  refine v_goto X 18 (gD D_L_close_0 7 rfl) (by decide) ?_
  refine v_iconst X 0 (gD D_L_close_0 14 rfl) (by decide) ?_
  exact v_iret X hr hw (gD D_L_close_0 15 rfl)
set_option maxRecDepth 100000 in
set_option maxHeartbeats 4000000 in
theorem c_L_comeBack {l : Launch} {G : GX} (htr : l.stackTraces = false) {k n : Nat} {σ : St} {a0 : Nat} {x1 : Int32} {x2 : Int32} {x3 : Int32} {a4 : Nat} {Q : Int32 → St → Prop} (ht : tvOk σ [(some a0, 12), (some a4, 23)]) (hw : w_L_comeBack k n a0 x1 x2 x3 a4 σ Q) : MIW l G 0 σ yL_comeBack cL_comeBack 6 (some .int) [(0, 12, 15, 13), (0, 12, 19, 15), (0, 12, 23, 17)] 5 k n [va_rf (some a0), .int x1, .int x2, .int x3, va_rf (some a4)] Q := by
  unfold w_L_comeBack at hw
  refine m_startW RL (by decide) htr ht (Nat.le_of_ble_eq_true rfl) rfl (lv := [(0, va_rf (some a0)), (1, .int x1), (2, .int x2), (3, .int x3), (4, va_rf (some a4))]) (d := 0) (fun p e s m args below meth c X hr hin htab => ?_)
  refine v_aload X 4 rfl (gD D_L_comeBack_0 0 rfl) ?_
  refine v_iconst X 0 (gD D_L_comeBack_0 1 rfl) (by decide) ?_
  refine v_aload_n X 0 rfl (gD D_L_comeBack_0 2 rfl) rfl ?_
  refine v_iload_n X 1 rfl (gD D_L_comeBack_0 3 rfl) rfl ?_
  refine v_iload_n X 2 rfl (gD D_L_comeBack_0 4 rfl) rfl ?_
  refine v_iload_n X 3 rfl (gD D_L_comeBack_0 5 rfl) rfl ?_
  obtain ⟨k53, n54, k55, n56, h57, h58, hw⟩ := hw
  refine v_callXi X (As := [.int x1, .int x2, .int x3]) (rest := [.int 0, va_rf (some a4)]) (nA := 3) k53 n54 k55 n56 (fun ht => c_X11_comeBack htr (ht.sub [0] rfl) hw) (Or.inr rfl) 0 (κ := 12) rfl (by decide) (rfl : gCl[11]? = some (RX11, TX11, 19)) lk_vRL_119 (by decide +kernel) rfl rfl (by simp [rf_cat, ct_i]) (by decide) (by decide) h57 h58 (gD D_L_comeBack_0 6 rfl) (fun u60 q59 s61 hy hx hf => ?_) (fun x51 s52 hq hx hf => ?_)
  · rcases hy with ⟨rfl, hw⟩ | ⟨rfl, hw⟩ | ⟨rfl, hw⟩
    · refine ⟨_, gCat0 htab (by decide) (by decide) lk_xl_1 (by simp [gNB, exN]) rfl, ?_⟩
      replace hw := hw hx hf
      clear hx hf
      refine v_astore X [(5, va_rf (some q59)), (0, va_rf (some a0)), (1, .int x1), (2, .int x2), (3, .int x3), (4, va_rf (some a4))] (gD D_L_comeBack_0 10 rfl) (by decide) rfl ?_
      refine v_iconst X 1 (gD D_L_comeBack_0 11 rfl) (by decide) ?_
      exact v_iret X hr hw (gD D_L_comeBack_0 12 rfl)
    · refine ⟨_, gCat1 htab (by decide) lk_xl_1 (by simp [gNC, exN]) (by decide) (by decide) lk_xl_2 (by simp [gNB, exN]) rfl, ?_⟩
      replace hw := hw hx hf
      clear hx hf
      refine v_astore X [(5, va_rf (some q59)), (0, va_rf (some a0)), (1, .int x1), (2, .int x2), (3, .int x3), (4, va_rf (some a4))] (gD D_L_comeBack_0 13 rfl) (by decide) rfl ?_
      refine v_iconst X 2 (gD D_L_comeBack_0 14 rfl) (by decide) ?_
      exact v_iret X hr hw (gD D_L_comeBack_0 15 rfl)
    · refine ⟨_, gCat2 htab (by decide) lk_xl_1 (by simp [gNC, exN]) (by decide) lk_xl_2 (by simp [gNC, exN]) (by decide) (by decide) lk_xl_3 (by simp [gNB, exN]) rfl, ?_⟩
      replace hw := hw hx hf
      clear hx hf
      refine v_astore X [(5, va_rf (some q59)), (0, va_rf (some a0)), (1, .int x1), (2, .int x2), (3, .int x3), (4, va_rf (some a4))] (gD D_L_comeBack_0 16 rfl) (by decide) rfl ?_
      refine v_iconst X 3 (gD D_L_comeBack_0 17 rfl) (by decide) ?_
      exact v_iret X hr hw (gD D_L_comeBack_0 18 rfl)
  replace hw := hq hx hf
  clear hq hx hf
  refine v_i2l X (gD D_L_comeBack_0 7 rfl) ?_
  obtain ⟨h62, hw⟩ := hw
  refine v_last X 1 rfl rfl h62 (gD D_L_comeBack_0 8 rfl) (fun s63 es63 => ?_)
  replace hw := hw s63 es63
  refine v_goto X 27 (gD D_L_comeBack_0 9 rfl) (by decide) ?_
  refine v_iconst X 0 (gD D_L_comeBack_0 19 rfl) (by decide) ?_
  exact v_iret X hr hw (gD D_L_comeBack_0 20 rfl)
set_option maxRecDepth 100000 in
set_option maxHeartbeats 4000000 in
theorem c_L_doing {l : Launch} {G : GX} (htr : l.stackTraces = false) {k n : Nat} {σ : St} {a0 : Nat} {x1 : Int32} {a2 : Nat} {Q : Int32 → St → Prop} (ht : tvOk σ [(some a0, 12), (some a2, 23)]) (hw : w_L_doing k n a0 x1 a2 σ Q) : MIW l G 0 σ yL_doing cL_doing 4 (some .int) [(0, 9, 12, 13)] 5 k n [va_rf (some a0), .int x1, va_rf (some a2)] Q := by
  unfold w_L_doing at hw
  refine m_startW RL (by decide) htr ht (Nat.le_of_ble_eq_true rfl) rfl (lv := [(0, va_rf (some a0)), (1, .int x1), (2, va_rf (some a2))]) (d := 0) (fun p e s m args below meth c X hr hin htab => ?_)
  refine v_aload_n X 2 rfl (gD D_L_doing_0 0 rfl) rfl ?_
  refine v_iconst X 0 (gD D_L_doing_0 1 rfl) (by decide) ?_
  refine v_aload_n X 0 rfl (gD D_L_doing_0 2 rfl) rfl ?_
  refine v_iload_n X 1 rfl (gD D_L_doing_0 3 rfl) rfl ?_
  obtain ⟨k53, n54, k55, n56, h57, h58, hw⟩ := hw
  refine v_callXi X (As := [.int x1]) (rest := [.int 0, va_rf (some a2)]) (nA := 1) k53 n54 k55 n56 (fun ht => c_X11_doing htr (ht.sub [0] rfl) hw) (Or.inr rfl) 0 (κ := 12) rfl (by decide) (rfl : gCl[11]? = some (RX11, TX11, 19)) lk_vRL_89 (by decide +kernel) rfl rfl (by simp [rf_cat, ct_i]) (by decide) (by decide) h57 h58 (gD D_L_doing_0 4 rfl) (fun u60 q59 s61 hy hx hf => ?_) (fun x51 s52 hq hx hf => ?_)
  · rcases hy with ⟨rfl, hw⟩
    refine ⟨_, gCat0 htab (by decide) (by decide) lk_xl_1 (by simp [gNB, exN]) rfl, ?_⟩
    replace hw := hw hx hf
    clear hx hf
    refine v_astore_n X [(3, va_rf (some q59)), (0, va_rf (some a0)), (1, .int x1), (2, va_rf (some a2))] (gD D_L_doing_0 8 rfl) rfl (by decide) rfl ?_
    refine v_iconst X 1 (gD D_L_doing_0 9 rfl) (by decide) ?_
    exact v_iret X hr hw (gD D_L_doing_0 10 rfl)
  replace hw := hq hx hf
  clear hq hx hf
  refine v_i2l X (gD D_L_doing_0 5 rfl) ?_
  obtain ⟨h62, hw⟩ := hw
  refine v_last X 1 rfl rfl h62 (gD D_L_doing_0 6 rfl) (fun s63 es63 => ?_)
  replace hw := hw s63 es63
  refine v_goto X 15 (gD D_L_doing_0 7 rfl) (by decide) ?_
  refine v_iconst X 0 (gD D_L_doing_0 11 rfl) (by decide) ?_
  exact v_iret X hr hw (gD D_L_doing_0 12 rfl)
set_option maxRecDepth 100000 in
set_option maxHeartbeats 4000000 in
theorem c_L_item {l : Launch} {G : GX} (htr : l.stackTraces = false) {k n : Nat} {σ : St} {a0 : Nat} {x1 : Int32} {x2 : Int32} {x3 : Int32} {x4 : Int32} {x5 : Int32} {x6 : Int32} {Q : Int32 → St → Prop} (ht : tvOk σ [(some a0, 12)]) (hw : w_L_item k n a0 x1 x2 x3 x4 x5 x6 σ Q) : MIW l G 0 σ yL_item cL_item 8 (some .int) [(0, 13, 16, 13), (0, 13, 20, 15), (0, 13, 24, 17)] 5 k n [va_rf (some a0), .int x1, .int x2, .int x3, .int x4, .int x5, .int x6] Q := by
  unfold w_L_item at hw
  refine m_startW RL (by decide) htr ht (Nat.le_of_ble_eq_true rfl) rfl (lv := [(0, va_rf (some a0)), (1, .int x1), (2, .int x2), (3, .int x3), (4, .int x4), (5, .int x5), (6, .int x6)]) (d := 0) (fun p e s m args below meth c X hr hin htab => ?_)
  refine v_aload_n X 0 rfl (gD D_L_item_0 0 rfl) rfl ?_
  refine v_iload_n X 1 rfl (gD D_L_item_0 1 rfl) rfl ?_
  refine v_iload_n X 2 rfl (gD D_L_item_0 2 rfl) rfl ?_
  refine v_iload_n X 3 rfl (gD D_L_item_0 3 rfl) rfl ?_
  refine v_iload X 4 rfl (gD D_L_item_0 4 rfl) ?_
  refine v_iload X 5 rfl (gD D_L_item_0 5 rfl) ?_
  refine v_iload X 6 rfl (gD D_L_item_0 6 rfl) ?_
  obtain ⟨k53, n54, k55, n56, h57, h58, hw⟩ := hw
  refine v_callXv X (As := [.int x1, .int x2, .int x3, .int x4, .int x5, .int x6]) (rest := []) (nA := 6) k53 n54 k55 n56 (fun ht => c_X11_item htr (ht.sub [0] rfl) hw) (Or.inr rfl) 0 (κ := 12) rfl (by decide) (rfl : gCl[11]? = some (RX11, TX11, 19)) lk_vRL_23 (by decide +kernel) rfl rfl (by decide) (by decide) (by decide) h57 h58 (gD D_L_item_0 7 rfl) (fun u60 q59 s61 hy hx hf => ?_) (fun s52 hq hx hf => ?_)
  · rcases hy with ⟨rfl, hw⟩ | ⟨rfl, hw⟩ | ⟨rfl, hw⟩
    · refine ⟨_, gCat0 htab (by decide) (by decide) lk_xl_1 (by simp [gNB, exN]) rfl, ?_⟩
      replace hw := hw hx hf
      clear hx hf
      refine v_astore X [(7, va_rf (some q59)), (0, va_rf (some a0)), (1, .int x1), (2, .int x2), (3, .int x3), (4, .int x4), (5, .int x5), (6, .int x6)] (gD D_L_item_0 9 rfl) (by decide) rfl ?_
      refine v_iconst X 1 (gD D_L_item_0 10 rfl) (by decide) ?_
      exact v_iret X hr hw (gD D_L_item_0 11 rfl)
    · refine ⟨_, gCat1 htab (by decide) lk_xl_1 (by simp [gNC, exN]) (by decide) (by decide) lk_xl_2 (by simp [gNB, exN]) rfl, ?_⟩
      replace hw := hw hx hf
      clear hx hf
      refine v_astore X [(7, va_rf (some q59)), (0, va_rf (some a0)), (1, .int x1), (2, .int x2), (3, .int x3), (4, .int x4), (5, .int x5), (6, .int x6)] (gD D_L_item_0 12 rfl) (by decide) rfl ?_
      refine v_iconst X 2 (gD D_L_item_0 13 rfl) (by decide) ?_
      exact v_iret X hr hw (gD D_L_item_0 14 rfl)
    · refine ⟨_, gCat2 htab (by decide) lk_xl_1 (by simp [gNC, exN]) (by decide) lk_xl_2 (by simp [gNC, exN]) (by decide) (by decide) lk_xl_3 (by simp [gNB, exN]) rfl, ?_⟩
      replace hw := hw hx hf
      clear hx hf
      refine v_astore X [(7, va_rf (some q59)), (0, va_rf (some a0)), (1, .int x1), (2, .int x2), (3, .int x3), (4, .int x4), (5, .int x5), (6, .int x6)] (gD D_L_item_0 15 rfl) (by decide) rfl ?_
      refine v_iconst X 3 (gD D_L_item_0 16 rfl) (by decide) ?_
      exact v_iret X hr hw (gD D_L_item_0 17 rfl)
  replace hw := hq hx hf
  clear hq hx hf
  refine v_goto X 28 (gD D_L_item_0 8 rfl) (by decide) ?_
  refine v_iconst X 0 (gD D_L_item_0 18 rfl) (by decide) ?_
  exact v_iret X hr hw (gD D_L_item_0 19 rfl)
set_option maxRecDepth 100000 in
set_option maxHeartbeats 4000000 in
theorem c_L_judge {l : Launch} {G : GX} (htr : l.stackTraces = false) {k n : Nat} {σ : St} {a0 : Nat} {x1 : Int32} {x2 : Int32} {x3 : Int32} {a4 : Nat} {Q : Int32 → St → Prop} (ht : tvOk σ [(some a0, 12), (some a4, 23)]) (hw : w_L_judge k n a0 x1 x2 x3 a4 σ Q) : MIW l G 0 σ yL_judge cL_judge 6 (some .int) [(0, 12, 15, 13), (0, 12, 19, 15), (0, 12, 23, 17)] 5 k n [va_rf (some a0), .int x1, .int x2, .int x3, va_rf (some a4)] Q := by
  unfold w_L_judge at hw
  refine m_startW RL (by decide) htr ht (Nat.le_of_ble_eq_true rfl) rfl (lv := [(0, va_rf (some a0)), (1, .int x1), (2, .int x2), (3, .int x3), (4, va_rf (some a4))]) (d := 0) (fun p e s m args below meth c X hr hin htab => ?_)
  refine v_aload X 4 rfl (gD D_L_judge_0 0 rfl) ?_
  refine v_iconst X 0 (gD D_L_judge_0 1 rfl) (by decide) ?_
  refine v_aload_n X 0 rfl (gD D_L_judge_0 2 rfl) rfl ?_
  refine v_iload_n X 1 rfl (gD D_L_judge_0 3 rfl) rfl ?_
  refine v_iload_n X 2 rfl (gD D_L_judge_0 4 rfl) rfl ?_
  refine v_iload_n X 3 rfl (gD D_L_judge_0 5 rfl) rfl ?_
  obtain ⟨k53, n54, k55, n56, h57, h58, hw⟩ := hw
  refine v_callXi X (As := [.int x1, .int x2, .int x3]) (rest := [.int 0, va_rf (some a4)]) (nA := 3) k53 n54 k55 n56 (fun ht => c_X11_judge htr (ht.sub [0] rfl) hw) (Or.inr rfl) 0 (κ := 12) rfl (by decide) (rfl : gCl[11]? = some (RX11, TX11, 19)) lk_vRL_122 (by decide +kernel) rfl rfl (by simp [rf_cat, ct_i]) (by decide) (by decide) h57 h58 (gD D_L_judge_0 6 rfl) (fun u60 q59 s61 hy hx hf => ?_) (fun x51 s52 hq hx hf => ?_)
  · rcases hy with ⟨rfl, hw⟩ | ⟨rfl, hw⟩ | ⟨rfl, hw⟩
    · refine ⟨_, gCat0 htab (by decide) (by decide) lk_xl_1 (by simp [gNB, exN]) rfl, ?_⟩
      replace hw := hw hx hf
      clear hx hf
      refine v_astore X [(5, va_rf (some q59)), (0, va_rf (some a0)), (1, .int x1), (2, .int x2), (3, .int x3), (4, va_rf (some a4))] (gD D_L_judge_0 10 rfl) (by decide) rfl ?_
      refine v_iconst X 1 (gD D_L_judge_0 11 rfl) (by decide) ?_
      exact v_iret X hr hw (gD D_L_judge_0 12 rfl)
    · refine ⟨_, gCat1 htab (by decide) lk_xl_1 (by simp [gNC, exN]) (by decide) (by decide) lk_xl_2 (by simp [gNB, exN]) rfl, ?_⟩
      replace hw := hw hx hf
      clear hx hf
      refine v_astore X [(5, va_rf (some q59)), (0, va_rf (some a0)), (1, .int x1), (2, .int x2), (3, .int x3), (4, va_rf (some a4))] (gD D_L_judge_0 13 rfl) (by decide) rfl ?_
      refine v_iconst X 2 (gD D_L_judge_0 14 rfl) (by decide) ?_
      exact v_iret X hr hw (gD D_L_judge_0 15 rfl)
    · refine ⟨_, gCat2 htab (by decide) lk_xl_1 (by simp [gNC, exN]) (by decide) lk_xl_2 (by simp [gNC, exN]) (by decide) (by decide) lk_xl_3 (by simp [gNB, exN]) rfl, ?_⟩
      replace hw := hw hx hf
      clear hx hf
      refine v_astore X [(5, va_rf (some q59)), (0, va_rf (some a0)), (1, .int x1), (2, .int x2), (3, .int x3), (4, va_rf (some a4))] (gD D_L_judge_0 16 rfl) (by decide) rfl ?_
      refine v_iconst X 3 (gD D_L_judge_0 17 rfl) (by decide) ?_
      exact v_iret X hr hw (gD D_L_judge_0 18 rfl)
  replace hw := hq hx hf
  clear hq hx hf
  refine v_i2l X (gD D_L_judge_0 7 rfl) ?_
  obtain ⟨h62, hw⟩ := hw
  refine v_last X 1 rfl rfl h62 (gD D_L_judge_0 8 rfl) (fun s63 es63 => ?_)
  replace hw := hw s63 es63
  refine v_goto X 27 (gD D_L_judge_0 9 rfl) (by decide) ?_
  refine v_iconst X 0 (gD D_L_judge_0 19 rfl) (by decide) ?_
  exact v_iret X hr hw (gD D_L_judge_0 20 rfl)
set_option maxRecDepth 100000 in
set_option maxHeartbeats 4000000 in
theorem c_L_others {l : Launch} {G : GX} (htr : l.stackTraces = false) {k n : Nat} {σ : St} {a0 : Nat} {x1 : Int32} {a2 : Nat} {Q : Int32 → St → Prop} (ht : tvOk σ [(some a0, 12), (some a2, 23)]) (hw : w_L_others k n a0 x1 a2 σ Q) : MIW l G 0 σ yL_others cL_others 4 (some .int) [(0, 9, 12, 13)] 5 k n [va_rf (some a0), .int x1, va_rf (some a2)] Q := by
  unfold w_L_others at hw
  refine m_startW RL (by decide) htr ht (Nat.le_of_ble_eq_true rfl) rfl (lv := [(0, va_rf (some a0)), (1, .int x1), (2, va_rf (some a2))]) (d := 0) (fun p e s m args below meth c X hr hin htab => ?_)
  refine v_aload_n X 2 rfl (gD D_L_others_0 0 rfl) rfl ?_
  refine v_iconst X 0 (gD D_L_others_0 1 rfl) (by decide) ?_
  refine v_aload_n X 0 rfl (gD D_L_others_0 2 rfl) rfl ?_
  refine v_iload_n X 1 rfl (gD D_L_others_0 3 rfl) rfl ?_
  obtain ⟨k53, n54, k55, n56, h57, h58, hw⟩ := hw
  refine v_callXi X (As := [.int x1]) (rest := [.int 0, va_rf (some a2)]) (nA := 1) k53 n54 k55 n56 (fun ht => c_X11_others htr (ht.sub [0] rfl) hw) (Or.inr rfl) 0 (κ := 12) rfl (by decide) (rfl : gCl[11]? = some (RX11, TX11, 19)) lk_vRL_58 (by decide +kernel) rfl rfl (by simp [rf_cat, ct_i]) (by decide) (by decide) h57 h58 (gD D_L_others_0 4 rfl) (fun u60 q59 s61 hy hx hf => ?_) (fun x51 s52 hq hx hf => ?_)
  · rcases hy with ⟨rfl, hw⟩
    refine ⟨_, gCat0 htab (by decide) (by decide) lk_xl_1 (by simp [gNB, exN]) rfl, ?_⟩
    replace hw := hw hx hf
    clear hx hf
    refine v_astore_n X [(3, va_rf (some q59)), (0, va_rf (some a0)), (1, .int x1), (2, va_rf (some a2))] (gD D_L_others_0 8 rfl) rfl (by decide) rfl ?_
    refine v_iconst X 1 (gD D_L_others_0 9 rfl) (by decide) ?_
    exact v_iret X hr hw (gD D_L_others_0 10 rfl)
  replace hw := hq hx hf
  clear hq hx hf
  refine v_i2l X (gD D_L_others_0 5 rfl) ?_
  obtain ⟨h62, hw⟩ := hw
  refine v_last X 1 rfl rfl h62 (gD D_L_others_0 6 rfl) (fun s63 es63 => ?_)
  replace hw := hw s63 es63
  refine v_goto X 15 (gD D_L_others_0 7 rfl) (by decide) ?_
  refine v_iconst X 0 (gD D_L_others_0 11 rfl) (by decide) ?_
  exact v_iret X hr hw (gD D_L_others_0 12 rfl)
set_option maxRecDepth 100000 in
set_option maxHeartbeats 4000000 in
theorem c_L_receive {l : Launch} {G : GX} (htr : l.stackTraces = false) {k n : Nat} {σ : St} {a0 : Nat} {x1 : Int32} {x2 : Int32} {x3 : Int32} {a4 : Nat} {Q : Int32 → St → Prop} (ht : tvOk σ [(some a0, 12), (some a4, 23)]) (hw : w_L_receive k n a0 x1 x2 x3 a4 σ Q) : MIW l G 0 σ yL_receive cL_receive 6 (some .int) [(0, 12, 15, 13), (0, 12, 19, 15), (0, 12, 23, 17)] 5 k n [va_rf (some a0), .int x1, .int x2, .int x3, va_rf (some a4)] Q := by
  unfold w_L_receive at hw
  refine m_startW RL (by decide) htr ht (Nat.le_of_ble_eq_true rfl) rfl (lv := [(0, va_rf (some a0)), (1, .int x1), (2, .int x2), (3, .int x3), (4, va_rf (some a4))]) (d := 0) (fun p e s m args below meth c X hr hin htab => ?_)
  refine v_aload X 4 rfl (gD D_L_receive_0 0 rfl) ?_
  refine v_iconst X 0 (gD D_L_receive_0 1 rfl) (by decide) ?_
  refine v_aload_n X 0 rfl (gD D_L_receive_0 2 rfl) rfl ?_
  refine v_iload_n X 1 rfl (gD D_L_receive_0 3 rfl) rfl ?_
  refine v_iload_n X 2 rfl (gD D_L_receive_0 4 rfl) rfl ?_
  refine v_iload_n X 3 rfl (gD D_L_receive_0 5 rfl) rfl ?_
  obtain ⟨k53, n54, k55, n56, h57, h58, hw⟩ := hw
  refine v_callXi X (As := [.int x1, .int x2, .int x3]) (rest := [.int 0, va_rf (some a4)]) (nA := 3) k53 n54 k55 n56 (fun ht => c_X11_receive htr (ht.sub [0] rfl) hw) (Or.inr rfl) 0 (κ := 12) rfl (by decide) (rfl : gCl[11]? = some (RX11, TX11, 19)) lk_vRL_51 (by decide +kernel) rfl rfl (by simp [rf_cat, ct_i]) (by decide) (by decide) h57 h58 (gD D_L_receive_0 6 rfl) (fun u60 q59 s61 hy hx hf => ?_) (fun x51 s52 hq hx hf => ?_)
  · rcases hy with ⟨rfl, hw⟩ | ⟨rfl, hw⟩ | ⟨rfl, hw⟩
    · refine ⟨_, gCat0 htab (by decide) (by decide) lk_xl_1 (by simp [gNB, exN]) rfl, ?_⟩
      replace hw := hw hx hf
      clear hx hf
      refine v_astore X [(5, va_rf (some q59)), (0, va_rf (some a0)), (1, .int x1), (2, .int x2), (3, .int x3), (4, va_rf (some a4))] (gD D_L_receive_0 10 rfl) (by decide) rfl ?_
      refine v_iconst X 1 (gD D_L_receive_0 11 rfl) (by decide) ?_
      exact v_iret X hr hw (gD D_L_receive_0 12 rfl)
    · refine ⟨_, gCat1 htab (by decide) lk_xl_1 (by simp [gNC, exN]) (by decide) (by decide) lk_xl_2 (by simp [gNB, exN]) rfl, ?_⟩
      replace hw := hw hx hf
      clear hx hf
      refine v_astore X [(5, va_rf (some q59)), (0, va_rf (some a0)), (1, .int x1), (2, .int x2), (3, .int x3), (4, va_rf (some a4))] (gD D_L_receive_0 13 rfl) (by decide) rfl ?_
      refine v_iconst X 2 (gD D_L_receive_0 14 rfl) (by decide) ?_
      exact v_iret X hr hw (gD D_L_receive_0 15 rfl)
    · refine ⟨_, gCat2 htab (by decide) lk_xl_1 (by simp [gNC, exN]) (by decide) lk_xl_2 (by simp [gNC, exN]) (by decide) (by decide) lk_xl_3 (by simp [gNB, exN]) rfl, ?_⟩
      replace hw := hw hx hf
      clear hx hf
      refine v_astore X [(5, va_rf (some q59)), (0, va_rf (some a0)), (1, .int x1), (2, .int x2), (3, .int x3), (4, va_rf (some a4))] (gD D_L_receive_0 16 rfl) (by decide) rfl ?_
      refine v_iconst X 3 (gD D_L_receive_0 17 rfl) (by decide) ?_
      exact v_iret X hr hw (gD D_L_receive_0 18 rfl)
  replace hw := hq hx hf
  clear hq hx hf
  refine v_i2l X (gD D_L_receive_0 7 rfl) ?_
  obtain ⟨h62, hw⟩ := hw
  refine v_last X 1 rfl rfl h62 (gD D_L_receive_0 8 rfl) (fun s63 es63 => ?_)
  replace hw := hw s63 es63
  refine v_goto X 27 (gD D_L_receive_0 9 rfl) (by decide) ?_
  refine v_iconst X 0 (gD D_L_receive_0 19 rfl) (by decide) ?_
  exact v_iret X hr hw (gD D_L_receive_0 20 rfl)
set_option maxRecDepth 100000 in
set_option maxHeartbeats 4000000 in
theorem c_L_count {l : Launch} {G : GX} (htr : l.stackTraces = false) {k n : Nat} {σ : St} {a0 : Nat} {x1 : Int32} {x2 : Int32} {a3 : Nat} {Q : Int32 → St → Prop} (ht : tvOk σ [(some a0, 12), (some a3, 23)]) (hw : w_L_count k n a0 x1 x2 a3 σ Q) : MIW l G 0 σ yL_count cL_count 5 (some .int) [(0, 10, 13, 13)] 6 k n [va_rf (some a0), .int x1, .int x2, va_rf (some a3)] Q := by
  unfold w_L_count at hw
  refine m_startW RL (by decide) htr ht (Nat.le_of_ble_eq_true rfl) rfl (lv := [(0, va_rf (some a0)), (1, .int x1), (2, .int x2), (3, va_rf (some a3))]) (d := 0) (fun p e s m args below meth c X hr hin htab => ?_)
  refine v_aload_n X 3 rfl (gD D_L_count_0 0 rfl) rfl ?_
  refine v_iconst X 0 (gD D_L_count_0 1 rfl) (by decide) ?_
  refine v_aload_n X 0 rfl (gD D_L_count_0 2 rfl) rfl ?_
  refine v_iload_n X 1 rfl (gD D_L_count_0 3 rfl) rfl ?_
  refine v_iload_n X 2 rfl (gD D_L_count_0 4 rfl) rfl ?_
  obtain ⟨k53, n54, k55, n56, h57, h58, hw⟩ := hw
  refine v_callXi X (As := [.int x1, .int x2]) (rest := [.int 0, va_rf (some a3)]) (nA := 2) k53 n54 k55 n56 (fun ht => c_X11_count htr (ht.sub [0] rfl) hw) (Or.inr rfl) 0 (κ := 12) rfl (by decide) (rfl : gCl[11]? = some (RX11, TX11, 19)) lk_vRL_98 (by decide +kernel) rfl rfl (by simp [rf_cat, ct_i]) (by decide) (by decide) h57 h58 (gD D_L_count_0 5 rfl) (fun u60 q59 s61 hy hx hf => ?_) (fun x51 s52 hq hx hf => ?_)
  · rcases hy with ⟨rfl, hw⟩
    refine ⟨_, gCat0 htab (by decide) (by decide) lk_xl_1 (by simp [gNB, exN]) rfl, ?_⟩
    replace hw := hw hx hf
    clear hx hf
    refine v_astore X [(4, va_rf (some q59)), (0, va_rf (some a0)), (1, .int x1), (2, .int x2), (3, va_rf (some a3))] (gD D_L_count_0 9 rfl) (by decide) rfl ?_
    refine v_iconst X 1 (gD D_L_count_0 10 rfl) (by decide) ?_
    exact v_iret X hr hw (gD D_L_count_0 11 rfl)
  replace hw := hq hx hf
  clear hq hx hf
  refine v_i2l X (gD D_L_count_0 6 rfl) ?_
  obtain ⟨h62, hw⟩ := hw
  refine v_last X 1 rfl rfl h62 (gD D_L_count_0 7 rfl) (fun s63 es63 => ?_)
  replace hw := hw s63 es63
  refine v_goto X 17 (gD D_L_count_0 8 rfl) (by decide) ?_
  refine v_iconst X 0 (gD D_L_count_0 12 rfl) (by decide) ?_
  exact v_iret X hr hw (gD D_L_count_0 13 rfl)
set_option maxRecDepth 100000 in
set_option maxHeartbeats 4000000 in
theorem c_L_recall {l : Launch} {G : GX} (htr : l.stackTraces = false) {k n : Nat} {σ : St} {a0 : Nat} {x1 : Int32} {a2 : Nat} {Q : Int32 → St → Prop} (ht : tvOk σ [(some a0, 12), (some a2, 23)]) (hw : w_L_recall k n a0 x1 a2 σ Q) : MIW l G 0 σ yL_recall cL_recall 4 (some .int) [(0, 9, 12, 13), (0, 9, 15, 17)] 6 k n [va_rf (some a0), .int x1, va_rf (some a2)] Q := by
  unfold w_L_recall at hw
  refine m_startW RL (by decide) htr ht (Nat.le_of_ble_eq_true rfl) rfl (lv := [(0, va_rf (some a0)), (1, .int x1), (2, va_rf (some a2))]) (d := 0) (fun p e s m args below meth c X hr hin htab => ?_)
  refine v_aload_n X 2 rfl (gD D_L_recall_0 0 rfl) rfl ?_
  refine v_iconst X 0 (gD D_L_recall_0 1 rfl) (by decide) ?_
  refine v_aload_n X 0 rfl (gD D_L_recall_0 2 rfl) rfl ?_
  refine v_iload_n X 1 rfl (gD D_L_recall_0 3 rfl) rfl ?_
  obtain ⟨k53, n54, k55, n56, h57, h58, hw⟩ := hw
  refine v_callXi X (As := [.int x1]) (rest := [.int 0, va_rf (some a2)]) (nA := 1) k53 n54 k55 n56 (fun ht => c_X11_recall htr (ht.sub [0] rfl) hw) (Or.inr rfl) 0 (κ := 12) rfl (by decide) (rfl : gCl[11]? = some (RX11, TX11, 19)) lk_vRL_126 (by decide +kernel) rfl rfl (by simp [rf_cat, ct_i]) (by decide) (by decide) h57 h58 (gD D_L_recall_0 4 rfl) (fun u60 q59 s61 hy hx hf => ?_) (fun x51 s52 hq hx hf => ?_)
  · rcases hy with ⟨rfl, hw⟩ | ⟨rfl, hw⟩
    · refine ⟨_, gCat0 htab (by decide) (by decide) lk_xl_1 (by simp [gNB, exN]) rfl, ?_⟩
      replace hw := hw hx hf
      clear hx hf
      refine v_astore_n X [(3, va_rf (some q59)), (0, va_rf (some a0)), (1, .int x1), (2, va_rf (some a2))] (gD D_L_recall_0 8 rfl) rfl (by decide) rfl ?_
      refine v_iconst X 1 (gD D_L_recall_0 9 rfl) (by decide) ?_
      exact v_iret X hr hw (gD D_L_recall_0 10 rfl)
    · refine ⟨_, gCat1 htab (by decide) lk_xl_1 (by simp [gNC, exN]) (by decide) (by decide) lk_xl_3 (by simp [gNB, exN]) rfl, ?_⟩
      replace hw := hw hx hf
      clear hx hf
      refine v_astore_n X [(3, va_rf (some q59)), (0, va_rf (some a0)), (1, .int x1), (2, va_rf (some a2))] (gD D_L_recall_0 11 rfl) rfl (by decide) rfl ?_
      refine v_iconst X 2 (gD D_L_recall_0 12 rfl) (by decide) ?_
      exact v_iret X hr hw (gD D_L_recall_0 13 rfl)
  replace hw := hq hx hf
  clear hq hx hf
  refine v_i2l X (gD D_L_recall_0 5 rfl) ?_
  obtain ⟨h62, hw⟩ := hw
  refine v_last X 1 rfl rfl h62 (gD D_L_recall_0 6 rfl) (fun s63 es63 => ?_)
  replace hw := hw s63 es63
  refine v_goto X 18 (gD D_L_recall_0 7 rfl) (by decide) ?_
  refine v_iconst X 0 (gD D_L_recall_0 14 rfl) (by decide) ?_
  exact v_iret X hr hw (gD D_L_recall_0 15 rfl)
set_option maxRecDepth 100000 in
set_option maxHeartbeats 4000000 in
theorem c_L_send {l : Launch} {G : GX} (htr : l.stackTraces = false) {k n : Nat} {σ : St} {a0 : Nat} {x1 : Int32} {a2 : Nat} {Q : Int32 → St → Prop} (ht : tvOk σ [(some a0, 12), (some a2, 23)]) (hw : w_L_send k n a0 x1 a2 σ Q) : MIW l G 0 σ yL_send cL_send 4 (some .int) [(0, 9, 12, 13), (0, 9, 15, 17)] 6 k n [va_rf (some a0), .int x1, va_rf (some a2)] Q := by
  unfold w_L_send at hw
  refine m_startW RL (by decide) htr ht (Nat.le_of_ble_eq_true rfl) rfl (lv := [(0, va_rf (some a0)), (1, .int x1), (2, va_rf (some a2))]) (d := 0) (fun p e s m args below meth c X hr hin htab => ?_)
  refine v_aload_n X 2 rfl (gD D_L_send_0 0 rfl) rfl ?_
  refine v_iconst X 0 (gD D_L_send_0 1 rfl) (by decide) ?_
  refine v_aload_n X 0 rfl (gD D_L_send_0 2 rfl) rfl ?_
  refine v_iload_n X 1 rfl (gD D_L_send_0 3 rfl) rfl ?_
  obtain ⟨k53, n54, k55, n56, h57, h58, hw⟩ := hw
  refine v_callXi X (As := [.int x1]) (rest := [.int 0, va_rf (some a2)]) (nA := 1) k53 n54 k55 n56 (fun ht => c_X11_send htr (ht.sub [0] rfl) hw) (Or.inr rfl) 0 (κ := 12) rfl (by decide) (rfl : gCl[11]? = some (RX11, TX11, 19)) lk_vRL_110 (by decide +kernel) rfl rfl (by simp [rf_cat, ct_i]) (by decide) (by decide) h57 h58 (gD D_L_send_0 4 rfl) (fun u60 q59 s61 hy hx hf => ?_) (fun x51 s52 hq hx hf => ?_)
  · rcases hy with ⟨rfl, hw⟩ | ⟨rfl, hw⟩
    · refine ⟨_, gCat0 htab (by decide) (by decide) lk_xl_1 (by simp [gNB, exN]) rfl, ?_⟩
      replace hw := hw hx hf
      clear hx hf
      refine v_astore_n X [(3, va_rf (some q59)), (0, va_rf (some a0)), (1, .int x1), (2, va_rf (some a2))] (gD D_L_send_0 8 rfl) rfl (by decide) rfl ?_
      refine v_iconst X 1 (gD D_L_send_0 9 rfl) (by decide) ?_
      exact v_iret X hr hw (gD D_L_send_0 10 rfl)
    · refine ⟨_, gCat1 htab (by decide) lk_xl_1 (by simp [gNC, exN]) (by decide) (by decide) lk_xl_3 (by simp [gNB, exN]) rfl, ?_⟩
      replace hw := hw hx hf
      clear hx hf
      refine v_astore_n X [(3, va_rf (some q59)), (0, va_rf (some a0)), (1, .int x1), (2, va_rf (some a2))] (gD D_L_send_0 11 rfl) rfl (by decide) rfl ?_
      refine v_iconst X 2 (gD D_L_send_0 12 rfl) (by decide) ?_
      exact v_iret X hr hw (gD D_L_send_0 13 rfl)
  replace hw := hq hx hf
  clear hq hx hf
  refine v_i2l X (gD D_L_send_0 5 rfl) ?_
  obtain ⟨h62, hw⟩ := hw
  refine v_last X 1 rfl rfl h62 (gD D_L_send_0 6 rfl) (fun s63 es63 => ?_)
  replace hw := hw s63 es63
  refine v_goto X 18 (gD D_L_send_0 7 rfl) (by decide) ?_
  refine v_iconst X 0 (gD D_L_send_0 14 rfl) (by decide) ?_
  exact v_iret X hr hw (gD D_L_send_0 15 rfl)
set_option maxRecDepth 100000 in
set_option maxHeartbeats 4000000 in
theorem c_L_line {l : Launch} {G : GX} (htr : l.stackTraces = false) {k n : Nat} {σ : St} {a0 : Nat} {x1 : Int32} {x2 : Int32} {x3 : Int32} {a4 : Nat} {Q : Int32 → St → Prop} (ht : tvOk σ [(some a0, 12), (some a4, 23)]) (hw : w_L_line k n a0 x1 x2 x3 a4 σ Q) : MIW l G 0 σ yL_line cL_line 6 (some .int) [(0, 12, 15, 13), (0, 12, 19, 15), (0, 12, 23, 17)] 7 k n [va_rf (some a0), .int x1, .int x2, .int x3, va_rf (some a4)] Q := by
  unfold w_L_line at hw
  refine m_startW RL (by decide) htr ht (Nat.le_of_ble_eq_true rfl) rfl (lv := [(0, va_rf (some a0)), (1, .int x1), (2, .int x2), (3, .int x3), (4, va_rf (some a4))]) (d := 0) (fun p e s m args below meth c X hr hin htab => ?_)
  refine v_aload X 4 rfl (gD D_L_line_0 0 rfl) ?_
  refine v_iconst X 0 (gD D_L_line_0 1 rfl) (by decide) ?_
  refine v_aload_n X 0 rfl (gD D_L_line_0 2 rfl) rfl ?_
  refine v_iload_n X 1 rfl (gD D_L_line_0 3 rfl) rfl ?_
  refine v_iload_n X 2 rfl (gD D_L_line_0 4 rfl) rfl ?_
  refine v_iload_n X 3 rfl (gD D_L_line_0 5 rfl) rfl ?_
  obtain ⟨k53, n54, k55, n56, h57, h58, hw⟩ := hw
  refine v_callXi X (As := [.int x1, .int x2, .int x3]) (rest := [.int 0, va_rf (some a4)]) (nA := 3) k53 n54 k55 n56 (fun ht => c_X11_line htr (ht.sub [0] rfl) hw) (Or.inr rfl) 0 (κ := 12) rfl (by decide) (rfl : gCl[11]? = some (RX11, TX11, 19)) lk_vRL_68 (by decide +kernel) rfl rfl (by simp [rf_cat, ct_i]) (by decide) (by decide) h57 h58 (gD D_L_line_0 6 rfl) (fun u60 q59 s61 hy hx hf => ?_) (fun x51 s52 hq hx hf => ?_)
  · rcases hy with ⟨rfl, hw⟩ | ⟨rfl, hw⟩ | ⟨rfl, hw⟩
    · refine ⟨_, gCat0 htab (by decide) (by decide) lk_xl_1 (by simp [gNB, exN]) rfl, ?_⟩
      replace hw := hw hx hf
      clear hx hf
      refine v_astore X [(5, va_rf (some q59)), (0, va_rf (some a0)), (1, .int x1), (2, .int x2), (3, .int x3), (4, va_rf (some a4))] (gD D_L_line_0 10 rfl) (by decide) rfl ?_
      refine v_iconst X 1 (gD D_L_line_0 11 rfl) (by decide) ?_
      exact v_iret X hr hw (gD D_L_line_0 12 rfl)
    · refine ⟨_, gCat1 htab (by decide) lk_xl_1 (by simp [gNC, exN]) (by decide) (by decide) lk_xl_2 (by simp [gNB, exN]) rfl, ?_⟩
      replace hw := hw hx hf
      clear hx hf
      refine v_astore X [(5, va_rf (some q59)), (0, va_rf (some a0)), (1, .int x1), (2, .int x2), (3, .int x3), (4, va_rf (some a4))] (gD D_L_line_0 13 rfl) (by decide) rfl ?_
      refine v_iconst X 2 (gD D_L_line_0 14 rfl) (by decide) ?_
      exact v_iret X hr hw (gD D_L_line_0 15 rfl)
    · refine ⟨_, gCat2 htab (by decide) lk_xl_1 (by simp [gNC, exN]) (by decide) lk_xl_2 (by simp [gNC, exN]) (by decide) (by decide) lk_xl_3 (by simp [gNB, exN]) rfl, ?_⟩
      replace hw := hw hx hf
      clear hx hf
      refine v_astore X [(5, va_rf (some q59)), (0, va_rf (some a0)), (1, .int x1), (2, .int x2), (3, .int x3), (4, va_rf (some a4))] (gD D_L_line_0 16 rfl) (by decide) rfl ?_
      refine v_iconst X 3 (gD D_L_line_0 17 rfl) (by decide) ?_
      exact v_iret X hr hw (gD D_L_line_0 18 rfl)
  replace hw := hq hx hf
  clear hq hx hf
  refine v_i2l X (gD D_L_line_0 7 rfl) ?_
  obtain ⟨h62, hw⟩ := hw
  refine v_last X 1 rfl rfl h62 (gD D_L_line_0 8 rfl) (fun s63 es63 => ?_)
  replace hw := hw s63 es63
  refine v_goto X 27 (gD D_L_line_0 9 rfl) (by decide) ?_
  refine v_iconst X 0 (gD D_L_line_0 19 rfl) (by decide) ?_
  exact v_iret X hr hw (gD D_L_line_0 20 rfl)
set_option maxRecDepth 100000 in
set_option maxHeartbeats 4000000 in
theorem c_L_lot {l : Launch} {G : GX} (htr : l.stackTraces = false) {k n : Nat} {σ : St} {a0 : Nat} {x1 : Int32} {x2 : Int32} {a3 : Nat} {Q : Int32 → St → Prop} (ht : tvOk σ [(some a0, 12), (some a3, 23)]) (hw : w_L_lot k n a0 x1 x2 a3 σ Q) : MIW l G 0 σ yL_lot cL_lot 5 (some .int) [(0, 10, 13, 13), (0, 10, 17, 15), (0, 10, 21, 17)] 7 k n [va_rf (some a0), .int x1, .int x2, va_rf (some a3)] Q := by
  unfold w_L_lot at hw
  refine m_startW RL (by decide) htr ht (Nat.le_of_ble_eq_true rfl) rfl (lv := [(0, va_rf (some a0)), (1, .int x1), (2, .int x2), (3, va_rf (some a3))]) (d := 0) (fun p e s m args below meth c X hr hin htab => ?_)
  refine v_aload_n X 3 rfl (gD D_L_lot_0 0 rfl) rfl ?_
  refine v_iconst X 0 (gD D_L_lot_0 1 rfl) (by decide) ?_
  refine v_aload_n X 0 rfl (gD D_L_lot_0 2 rfl) rfl ?_
  refine v_iload_n X 1 rfl (gD D_L_lot_0 3 rfl) rfl ?_
  refine v_iload_n X 2 rfl (gD D_L_lot_0 4 rfl) rfl ?_
  obtain ⟨k53, n54, k55, n56, h57, h58, hw⟩ := hw
  refine v_callXi X (As := [.int x1, .int x2]) (rest := [.int 0, va_rf (some a3)]) (nA := 2) k53 n54 k55 n56 (fun ht => c_X11_lot htr (ht.sub [0] rfl) hw) (Or.inr rfl) 0 (κ := 12) rfl (by decide) (rfl : gCl[11]? = some (RX11, TX11, 19)) lk_vRL_31 (by decide +kernel) rfl rfl (by simp [rf_cat, ct_i]) (by decide) (by decide) h57 h58 (gD D_L_lot_0 5 rfl) (fun u60 q59 s61 hy hx hf => ?_) (fun x51 s52 hq hx hf => ?_)
  · rcases hy with ⟨rfl, hw⟩ | ⟨rfl, hw⟩ | ⟨rfl, hw⟩
    · refine ⟨_, gCat0 htab (by decide) (by decide) lk_xl_1 (by simp [gNB, exN]) rfl, ?_⟩
      replace hw := hw hx hf
      clear hx hf
      refine v_astore X [(4, va_rf (some q59)), (0, va_rf (some a0)), (1, .int x1), (2, .int x2), (3, va_rf (some a3))] (gD D_L_lot_0 9 rfl) (by decide) rfl ?_
      refine v_iconst X 1 (gD D_L_lot_0 10 rfl) (by decide) ?_
      exact v_iret X hr hw (gD D_L_lot_0 11 rfl)
    · refine ⟨_, gCat1 htab (by decide) lk_xl_1 (by simp [gNC, exN]) (by decide) (by decide) lk_xl_2 (by simp [gNB, exN]) rfl, ?_⟩
      replace hw := hw hx hf
      clear hx hf
      refine v_astore X [(4, va_rf (some q59)), (0, va_rf (some a0)), (1, .int x1), (2, .int x2), (3, va_rf (some a3))] (gD D_L_lot_0 12 rfl) (by decide) rfl ?_
      refine v_iconst X 2 (gD D_L_lot_0 13 rfl) (by decide) ?_
      exact v_iret X hr hw (gD D_L_lot_0 14 rfl)
    · refine ⟨_, gCat2 htab (by decide) lk_xl_1 (by simp [gNC, exN]) (by decide) lk_xl_2 (by simp [gNC, exN]) (by decide) (by decide) lk_xl_3 (by simp [gNB, exN]) rfl, ?_⟩
      replace hw := hw hx hf
      clear hx hf
      refine v_astore X [(4, va_rf (some q59)), (0, va_rf (some a0)), (1, .int x1), (2, .int x2), (3, va_rf (some a3))] (gD D_L_lot_0 15 rfl) (by decide) rfl ?_
      refine v_iconst X 3 (gD D_L_lot_0 16 rfl) (by decide) ?_
      exact v_iret X hr hw (gD D_L_lot_0 17 rfl)
  replace hw := hq hx hf
  clear hq hx hf
  refine v_i2l X (gD D_L_lot_0 6 rfl) ?_
  obtain ⟨h62, hw⟩ := hw
  refine v_last X 1 rfl rfl h62 (gD D_L_lot_0 7 rfl) (fun s63 es63 => ?_)
  replace hw := hw s63 es63
  refine v_goto X 25 (gD D_L_lot_0 8 rfl) (by decide) ?_
  refine v_iconst X 0 (gD D_L_lot_0 18 rfl) (by decide) ?_
  exact v_iret X hr hw (gD D_L_lot_0 19 rfl)
set_option maxRecDepth 100000 in
set_option maxHeartbeats 4000000 in
theorem c_L_notice {l : Launch} {G : GX} (htr : l.stackTraces = false) {k n : Nat} {σ : St} {a0 : Nat} {x1 : Int32} {x2 : Int32} {a3 : Nat} {Q : Int32 → St → Prop} (ht : tvOk σ [(some a0, 12), (some a3, 23)]) (hw : w_L_notice k n a0 x1 x2 a3 σ Q) : MIW l G 0 σ yL_notice cL_notice 5 (some .int) [(0, 10, 13, 13), (0, 10, 17, 15), (0, 10, 21, 17)] 7 k n [va_rf (some a0), .int x1, .int x2, va_rf (some a3)] Q := by
  unfold w_L_notice at hw
  refine m_startW RL (by decide) htr ht (Nat.le_of_ble_eq_true rfl) rfl (lv := [(0, va_rf (some a0)), (1, .int x1), (2, .int x2), (3, va_rf (some a3))]) (d := 0) (fun p e s m args below meth c X hr hin htab => ?_)
  refine v_aload_n X 3 rfl (gD D_L_notice_0 0 rfl) rfl ?_
  refine v_iconst X 0 (gD D_L_notice_0 1 rfl) (by decide) ?_
  refine v_aload_n X 0 rfl (gD D_L_notice_0 2 rfl) rfl ?_
  refine v_iload_n X 1 rfl (gD D_L_notice_0 3 rfl) rfl ?_
  refine v_iload_n X 2 rfl (gD D_L_notice_0 4 rfl) rfl ?_
  obtain ⟨k53, n54, k55, n56, h57, h58, hw⟩ := hw
  refine v_callXi X (As := [.int x1, .int x2]) (rest := [.int 0, va_rf (some a3)]) (nA := 2) k53 n54 k55 n56 (fun ht => c_X11_notice htr (ht.sub [0] rfl) hw) (Or.inr rfl) 0 (κ := 12) rfl (by decide) (rfl : gCl[11]? = some (RX11, TX11, 19)) lk_vRL_48 (by decide +kernel) rfl rfl (by simp [rf_cat, ct_i]) (by decide) (by decide) h57 h58 (gD D_L_notice_0 5 rfl) (fun u60 q59 s61 hy hx hf => ?_) (fun x51 s52 hq hx hf => ?_)
  · rcases hy with ⟨rfl, hw⟩ | ⟨rfl, hw⟩ | ⟨rfl, hw⟩
    · refine ⟨_, gCat0 htab (by decide) (by decide) lk_xl_1 (by simp [gNB, exN]) rfl, ?_⟩
      replace hw := hw hx hf
      clear hx hf
      refine v_astore X [(4, va_rf (some q59)), (0, va_rf (some a0)), (1, .int x1), (2, .int x2), (3, va_rf (some a3))] (gD D_L_notice_0 9 rfl) (by decide) rfl ?_
      refine v_iconst X 1 (gD D_L_notice_0 10 rfl) (by decide) ?_
      exact v_iret X hr hw (gD D_L_notice_0 11 rfl)
    · refine ⟨_, gCat1 htab (by decide) lk_xl_1 (by simp [gNC, exN]) (by decide) (by decide) lk_xl_2 (by simp [gNB, exN]) rfl, ?_⟩
      replace hw := hw hx hf
      clear hx hf
      refine v_astore X [(4, va_rf (some q59)), (0, va_rf (some a0)), (1, .int x1), (2, .int x2), (3, va_rf (some a3))] (gD D_L_notice_0 12 rfl) (by decide) rfl ?_
      refine v_iconst X 2 (gD D_L_notice_0 13 rfl) (by decide) ?_
      exact v_iret X hr hw (gD D_L_notice_0 14 rfl)
    · refine ⟨_, gCat2 htab (by decide) lk_xl_1 (by simp [gNC, exN]) (by decide) lk_xl_2 (by simp [gNC, exN]) (by decide) (by decide) lk_xl_3 (by simp [gNB, exN]) rfl, ?_⟩
      replace hw := hw hx hf
      clear hx hf
      refine v_astore X [(4, va_rf (some q59)), (0, va_rf (some a0)), (1, .int x1), (2, .int x2), (3, va_rf (some a3))] (gD D_L_notice_0 15 rfl) (by decide) rfl ?_
      refine v_iconst X 3 (gD D_L_notice_0 16 rfl) (by decide) ?_
      exact v_iret X hr hw (gD D_L_notice_0 17 rfl)
  replace hw := hq hx hf
  clear hq hx hf
  refine v_i2l X (gD D_L_notice_0 6 rfl) ?_
  obtain ⟨h62, hw⟩ := hw
  refine v_last X 1 rfl rfl h62 (gD D_L_notice_0 7 rfl) (fun s63 es63 => ?_)
  replace hw := hw s63 es63
  refine v_goto X 25 (gD D_L_notice_0 8 rfl) (by decide) ?_
  refine v_iconst X 0 (gD D_L_notice_0 18 rfl) (by decide) ?_
  exact v_iret X hr hw (gD D_L_notice_0 19 rfl)
set_option maxRecDepth 100000 in
set_option maxHeartbeats 4000000 in
theorem c_L_order {l : Launch} {G : GX} (htr : l.stackTraces = false) {k n : Nat} {σ : St} {a0 : Nat} {x1 : Int32} {x2 : Int32} {x3 : Int32} {a4 : Nat} {Q : Int32 → St → Prop} (ht : tvOk σ [(some a0, 12), (some a4, 23)]) (hw : w_L_order k n a0 x1 x2 x3 a4 σ Q) : MIW l G 0 σ yL_order cL_order 6 (some .int) [(0, 12, 15, 15), (0, 12, 19, 17)] 7 k n [va_rf (some a0), .int x1, .int x2, .int x3, va_rf (some a4)] Q := by
  unfold w_L_order at hw
  refine m_startW RL (by decide) htr ht (Nat.le_of_ble_eq_true rfl) rfl (lv := [(0, va_rf (some a0)), (1, .int x1), (2, .int x2), (3, .int x3), (4, va_rf (some a4))]) (d := 0) (fun p e s m args below meth c X hr hin htab => ?_)
  refine v_aload X 4 rfl (gD D_L_order_0 0 rfl) ?_
  refine v_iconst X 0 (gD D_L_order_0 1 rfl) (by decide) ?_
  refine v_aload_n X 0 rfl (gD D_L_order_0 2 rfl) rfl ?_
  refine v_iload_n X 1 rfl (gD D_L_order_0 3 rfl) rfl ?_
  refine v_iload_n X 2 rfl (gD D_L_order_0 4 rfl) rfl ?_
  refine v_iload_n X 3 rfl (gD D_L_order_0 5 rfl) rfl ?_
  obtain ⟨k53, n54, k55, n56, h57, h58, hw⟩ := hw
  refine v_callXi X (As := [.int x1, .int x2, .int x3]) (rest := [.int 0, va_rf (some a4)]) (nA := 3) k53 n54 k55 n56 (fun ht => c_X11_order htr (ht.sub [0] rfl) hw) (Or.inr rfl) 0 (κ := 12) rfl (by decide) (rfl : gCl[11]? = some (RX11, TX11, 19)) lk_vRL_64 (by decide +kernel) rfl rfl (by simp [rf_cat, ct_i]) (by decide) (by decide) h57 h58 (gD D_L_order_0 6 rfl) (fun u60 q59 s61 hy hx hf => ?_) (fun x51 s52 hq hx hf => ?_)
  · rcases hy with ⟨rfl, hw⟩ | ⟨rfl, hw⟩
    · refine ⟨_, gCat0 htab (by decide) (by decide) lk_xl_2 (by simp [gNB, exN]) rfl, ?_⟩
      replace hw := hw hx hf
      clear hx hf
      refine v_astore X [(5, va_rf (some q59)), (0, va_rf (some a0)), (1, .int x1), (2, .int x2), (3, .int x3), (4, va_rf (some a4))] (gD D_L_order_0 10 rfl) (by decide) rfl ?_
      refine v_iconst X 1 (gD D_L_order_0 11 rfl) (by decide) ?_
      exact v_iret X hr hw (gD D_L_order_0 12 rfl)
    · refine ⟨_, gCat1 htab (by decide) lk_xl_2 (by simp [gNC, exN]) (by decide) (by decide) lk_xl_3 (by simp [gNB, exN]) rfl, ?_⟩
      replace hw := hw hx hf
      clear hx hf
      refine v_astore X [(5, va_rf (some q59)), (0, va_rf (some a0)), (1, .int x1), (2, .int x2), (3, .int x3), (4, va_rf (some a4))] (gD D_L_order_0 13 rfl) (by decide) rfl ?_
      refine v_iconst X 2 (gD D_L_order_0 14 rfl) (by decide) ?_
      exact v_iret X hr hw (gD D_L_order_0 15 rfl)
  replace hw := hq hx hf
  clear hq hx hf
  refine v_i2l X (gD D_L_order_0 7 rfl) ?_
  obtain ⟨h62, hw⟩ := hw
  refine v_last X 1 rfl rfl h62 (gD D_L_order_0 8 rfl) (fun s63 es63 => ?_)
  replace hw := hw s63 es63
  refine v_goto X 23 (gD D_L_order_0 9 rfl) (by decide) ?_
  refine v_iconst X 0 (gD D_L_order_0 16 rfl) (by decide) ?_
  exact v_iret X hr hw (gD D_L_order_0 17 rfl)
set_option maxRecDepth 100000 in
set_option maxHeartbeats 4000000 in
theorem c_L_give {l : Launch} {G : GX} (htr : l.stackTraces = false) {k n : Nat} {σ : St} {a0 : Nat} {x1 : Int32} {x2 : Int32} {a3 : Nat} {Q : Int32 → St → Prop} (ht : tvOk σ [(some a0, 12), (some a3, 23)]) (hw : w_L_give k n a0 x1 x2 a3 σ Q) : MIW l G 0 σ yL_give cL_give 5 (some .int) [(0, 10, 13, 13), (0, 10, 17, 17)] 8 k n [va_rf (some a0), .int x1, .int x2, va_rf (some a3)] Q := by
  unfold w_L_give at hw
  refine m_startW RL (by decide) htr ht (Nat.le_of_ble_eq_true rfl) rfl (lv := [(0, va_rf (some a0)), (1, .int x1), (2, .int x2), (3, va_rf (some a3))]) (d := 0) (fun p e s m args below meth c X hr hin htab => ?_)
  refine v_aload_n X 3 rfl (gD D_L_give_0 0 rfl) rfl ?_
  refine v_iconst X 0 (gD D_L_give_0 1 rfl) (by decide) ?_
  refine v_aload_n X 0 rfl (gD D_L_give_0 2 rfl) rfl ?_
  refine v_iload_n X 1 rfl (gD D_L_give_0 3 rfl) rfl ?_
  refine v_iload_n X 2 rfl (gD D_L_give_0 4 rfl) rfl ?_
  obtain ⟨k53, n54, k55, n56, h57, h58, hw⟩ := hw
  refine v_callXi X (As := [.int x1, .int x2]) (rest := [.int 0, va_rf (some a3)]) (nA := 2) k53 n54 k55 n56 (fun ht => c_X11_give htr (ht.sub [0] rfl) hw) (Or.inr rfl) 0 (κ := 12) rfl (by decide) (rfl : gCl[11]? = some (RX11, TX11, 19)) lk_vRL_80 (by decide +kernel) rfl rfl (by simp [rf_cat, ct_i]) (by decide) (by decide) h57 h58 (gD D_L_give_0 5 rfl) (fun u60 q59 s61 hy hx hf => ?_) (fun x51 s52 hq hx hf => ?_)
  · rcases hy with ⟨rfl, hw⟩ | ⟨rfl, hw⟩
    · refine ⟨_, gCat0 htab (by decide) (by decide) lk_xl_1 (by simp [gNB, exN]) rfl, ?_⟩
      replace hw := hw hx hf
      clear hx hf
      refine v_astore X [(4, va_rf (some q59)), (0, va_rf (some a0)), (1, .int x1), (2, .int x2), (3, va_rf (some a3))] (gD D_L_give_0 9 rfl) (by decide) rfl ?_
      refine v_iconst X 1 (gD D_L_give_0 10 rfl) (by decide) ?_
      exact v_iret X hr hw (gD D_L_give_0 11 rfl)
    · refine ⟨_, gCat1 htab (by decide) lk_xl_1 (by simp [gNC, exN]) (by decide) (by decide) lk_xl_3 (by simp [gNB, exN]) rfl, ?_⟩
      replace hw := hw hx hf
      clear hx hf
      refine v_astore X [(4, va_rf (some q59)), (0, va_rf (some a0)), (1, .int x1), (2, .int x2), (3, va_rf (some a3))] (gD D_L_give_0 12 rfl) (by decide) rfl ?_
      refine v_iconst X 2 (gD D_L_give_0 13 rfl) (by decide) ?_
      exact v_iret X hr hw (gD D_L_give_0 14 rfl)
  replace hw := hq hx hf
  clear hq hx hf
  refine v_i2l X (gD D_L_give_0 6 rfl) ?_
  obtain ⟨h62, hw⟩ := hw
  refine v_last X 1 rfl rfl h62 (gD D_L_give_0 7 rfl) (fun s63 es63 => ?_)
  replace hw := hw s63 es63
  refine v_goto X 21 (gD D_L_give_0 8 rfl) (by decide) ?_
  refine v_iconst X 0 (gD D_L_give_0 15 rfl) (by decide) ?_
  exact v_iret X hr hw (gD D_L_give_0 16 rfl)
set_option maxRecDepth 100000 in
set_option maxHeartbeats 4000000 in
theorem c_L_pass {l : Launch} {G : GX} (htr : l.stackTraces = false) {k n : Nat} {σ : St} {a0 : Nat} {x1 : Int32} {a2 : Nat} {Q : Int32 → St → Prop} (ht : tvOk σ [(some a0, 12), (some a2, 23)]) (hw : w_L_pass k n a0 x1 a2 σ Q) : MIW l G 0 σ yL_pass cL_pass 4 (some .int) [(0, 9, 12, 15)] 8 k n [va_rf (some a0), .int x1, va_rf (some a2)] Q := by
  unfold w_L_pass at hw
  refine m_startW RL (by decide) htr ht (Nat.le_of_ble_eq_true rfl) rfl (lv := [(0, va_rf (some a0)), (1, .int x1), (2, va_rf (some a2))]) (d := 0) (fun p e s m args below meth c X hr hin htab => ?_)
  refine v_aload_n X 2 rfl (gD D_L_pass_0 0 rfl) rfl ?_
  refine v_iconst X 0 (gD D_L_pass_0 1 rfl) (by decide) ?_
  refine v_aload_n X 0 rfl (gD D_L_pass_0 2 rfl) rfl ?_
  refine v_iload_n X 1 rfl (gD D_L_pass_0 3 rfl) rfl ?_
  obtain ⟨k53, n54, k55, n56, h57, h58, hw⟩ := hw
  refine v_callXi X (As := [.int x1]) (rest := [.int 0, va_rf (some a2)]) (nA := 1) k53 n54 k55 n56 (fun ht => c_X11_pass htr (ht.sub [0] rfl) hw) (Or.inr rfl) 0 (κ := 12) rfl (by decide) (rfl : gCl[11]? = some (RX11, TX11, 19)) lk_vRL_83 (by decide +kernel) rfl rfl (by simp [rf_cat, ct_i]) (by decide) (by decide) h57 h58 (gD D_L_pass_0 4 rfl) (fun u60 q59 s61 hy hx hf => ?_) (fun x51 s52 hq hx hf => ?_)
  · rcases hy with ⟨rfl, hw⟩
    refine ⟨_, gCat0 htab (by decide) (by decide) lk_xl_2 (by simp [gNB, exN]) rfl, ?_⟩
    replace hw := hw hx hf
    clear hx hf
    refine v_astore_n X [(3, va_rf (some q59)), (0, va_rf (some a0)), (1, .int x1), (2, va_rf (some a2))] (gD D_L_pass_0 8 rfl) rfl (by decide) rfl ?_
    refine v_iconst X 1 (gD D_L_pass_0 9 rfl) (by decide) ?_
    exact v_iret X hr hw (gD D_L_pass_0 10 rfl)
  replace hw := hq hx hf
  clear hq hx hf
  refine v_i2l X (gD D_L_pass_0 5 rfl) ?_
  obtain ⟨h62, hw⟩ := hw
  refine v_last X 1 rfl rfl h62 (gD D_L_pass_0 6 rfl) (fun s63 es63 => ?_)
  replace hw := hw s63 es63
  refine v_goto X 15 (gD D_L_pass_0 7 rfl) (by decide) ?_
  refine v_iconst X 0 (gD D_L_pass_0 11 rfl) (by decide) ?_
  exact v_iret X hr hw (gD D_L_pass_0 12 rfl)
set_option maxRecDepth 100000 in
set_option maxHeartbeats 4000000 in
theorem c_L_putAway {l : Launch} {G : GX} (htr : l.stackTraces = false) {k n : Nat} {σ : St} {a0 : Nat} {x1 : Int32} {x2 : Int32} {a3 : Nat} {Q : Int32 → St → Prop} (ht : tvOk σ [(some a0, 12), (some a3, 23)]) (hw : w_L_putAway k n a0 x1 x2 a3 σ Q) : MIW l G 0 σ yL_putAway cL_putAway 5 (some .int) [(0, 10, 13, 13), (0, 10, 17, 15), (0, 10, 21, 17)] 8 k n [va_rf (some a0), .int x1, .int x2, va_rf (some a3)] Q := by
  unfold w_L_putAway at hw
  refine m_startW RL (by decide) htr ht (Nat.le_of_ble_eq_true rfl) rfl (lv := [(0, va_rf (some a0)), (1, .int x1), (2, .int x2), (3, va_rf (some a3))]) (d := 0) (fun p e s m args below meth c X hr hin htab => ?_)
  refine v_aload_n X 3 rfl (gD D_L_putAway_0 0 rfl) rfl ?_
  refine v_iconst X 0 (gD D_L_putAway_0 1 rfl) (by decide) ?_
  refine v_aload_n X 0 rfl (gD D_L_putAway_0 2 rfl) rfl ?_
  refine v_iload_n X 1 rfl (gD D_L_putAway_0 3 rfl) rfl ?_
  refine v_iload_n X 2 rfl (gD D_L_putAway_0 4 rfl) rfl ?_
  obtain ⟨k53, n54, k55, n56, h57, h58, hw⟩ := hw
  refine v_callXi X (As := [.int x1, .int x2]) (rest := [.int 0, va_rf (some a3)]) (nA := 2) k53 n54 k55 n56 (fun ht => c_X11_putAway htr (ht.sub [0] rfl) hw) (Or.inr rfl) 0 (κ := 12) rfl (by decide) (rfl : gCl[11]? = some (RX11, TX11, 19)) lk_vRL_61 (by decide +kernel) rfl rfl (by simp [rf_cat, ct_i]) (by decide) (by decide) h57 h58 (gD D_L_putAway_0 5 rfl) (fun u60 q59 s61 hy hx hf => ?_) (fun x51 s52 hq hx hf => ?_)
  · rcases hy with ⟨rfl, hw⟩ | ⟨rfl, hw⟩ | ⟨rfl, hw⟩
    · refine ⟨_, gCat0 htab (by decide) (by decide) lk_xl_1 (by simp [gNB, exN]) rfl, ?_⟩
      replace hw := hw hx hf
      clear hx hf
      refine v_astore X [(4, va_rf (some q59)), (0, va_rf (some a0)), (1, .int x1), (2, .int x2), (3, va_rf (some a3))] (gD D_L_putAway_0 9 rfl) (by decide) rfl ?_
      refine v_iconst X 1 (gD D_L_putAway_0 10 rfl) (by decide) ?_
      exact v_iret X hr hw (gD D_L_putAway_0 11 rfl)
    · refine ⟨_, gCat1 htab (by decide) lk_xl_1 (by simp [gNC, exN]) (by decide) (by decide) lk_xl_2 (by simp [gNB, exN]) rfl, ?_⟩
      replace hw := hw hx hf
      clear hx hf
      refine v_astore X [(4, va_rf (some q59)), (0, va_rf (some a0)), (1, .int x1), (2, .int x2), (3, va_rf (some a3))] (gD D_L_putAway_0 12 rfl) (by decide) rfl ?_
      refine v_iconst X 2 (gD D_L_putAway_0 13 rfl) (by decide) ?_
      exact v_iret X hr hw (gD D_L_putAway_0 14 rfl)
    · refine ⟨_, gCat2 htab (by decide) lk_xl_1 (by simp [gNC, exN]) (by decide) lk_xl_2 (by simp [gNC, exN]) (by decide) (by decide) lk_xl_3 (by simp [gNB, exN]) rfl, ?_⟩
      replace hw := hw hx hf
      clear hx hf
      refine v_astore X [(4, va_rf (some q59)), (0, va_rf (some a0)), (1, .int x1), (2, .int x2), (3, va_rf (some a3))] (gD D_L_putAway_0 15 rfl) (by decide) rfl ?_
      refine v_iconst X 3 (gD D_L_putAway_0 16 rfl) (by decide) ?_
      exact v_iret X hr hw (gD D_L_putAway_0 17 rfl)
  replace hw := hq hx hf
  clear hq hx hf
  refine v_i2l X (gD D_L_putAway_0 6 rfl) ?_
  obtain ⟨h62, hw⟩ := hw
  refine v_last X 1 rfl rfl h62 (gD D_L_putAway_0 7 rfl) (fun s63 es63 => ?_)
  replace hw := hw s63 es63
  refine v_goto X 25 (gD D_L_putAway_0 8 rfl) (by decide) ?_
  refine v_iconst X 0 (gD D_L_putAway_0 18 rfl) (by decide) ?_
  exact v_iret X hr hw (gD D_L_putAway_0 19 rfl)
set_option maxRecDepth 100000 in
set_option maxHeartbeats 4000000 in
theorem c_L_wave {l : Launch} {G : GX} (htr : l.stackTraces = false) {k n : Nat} {σ : St} {a0 : Nat} {x1 : Int32} {x2 : Int32} {a3 : Nat} {Q : Int32 → St → Prop} (ht : tvOk σ [(some a0, 12), (some a3, 23)]) (hw : w_L_wave k n a0 x1 x2 a3 σ Q) : MIW l G 0 σ yL_wave cL_wave 5 (some .int) [(0, 10, 13, 13), (0, 10, 17, 15), (0, 10, 21, 17)] 8 k n [va_rf (some a0), .int x1, .int x2, va_rf (some a3)] Q := by
  unfold w_L_wave at hw
  refine m_startW RL (by decide) htr ht (Nat.le_of_ble_eq_true rfl) rfl (lv := [(0, va_rf (some a0)), (1, .int x1), (2, .int x2), (3, va_rf (some a3))]) (d := 0) (fun p e s m args below meth c X hr hin htab => ?_)
  refine v_aload_n X 3 rfl (gD D_L_wave_0 0 rfl) rfl ?_
  refine v_iconst X 0 (gD D_L_wave_0 1 rfl) (by decide) ?_
  refine v_aload_n X 0 rfl (gD D_L_wave_0 2 rfl) rfl ?_
  refine v_iload_n X 1 rfl (gD D_L_wave_0 3 rfl) rfl ?_
  refine v_iload_n X 2 rfl (gD D_L_wave_0 4 rfl) rfl ?_
  obtain ⟨k53, n54, k55, n56, h57, h58, hw⟩ := hw
  refine v_callXi X (As := [.int x1, .int x2]) (rest := [.int 0, va_rf (some a3)]) (nA := 2) k53 n54 k55 n56 (fun ht => c_X11_wave htr (ht.sub [0] rfl) hw) (Or.inr rfl) 0 (κ := 12) rfl (by decide) (rfl : gCl[11]? = some (RX11, TX11, 19)) lk_vRL_77 (by decide +kernel) rfl rfl (by simp [rf_cat, ct_i]) (by decide) (by decide) h57 h58 (gD D_L_wave_0 5 rfl) (fun u60 q59 s61 hy hx hf => ?_) (fun x51 s52 hq hx hf => ?_)
  · rcases hy with ⟨rfl, hw⟩ | ⟨rfl, hw⟩ | ⟨rfl, hw⟩
    · refine ⟨_, gCat0 htab (by decide) (by decide) lk_xl_1 (by simp [gNB, exN]) rfl, ?_⟩
      replace hw := hw hx hf
      clear hx hf
      refine v_astore X [(4, va_rf (some q59)), (0, va_rf (some a0)), (1, .int x1), (2, .int x2), (3, va_rf (some a3))] (gD D_L_wave_0 9 rfl) (by decide) rfl ?_
      refine v_iconst X 1 (gD D_L_wave_0 10 rfl) (by decide) ?_
      exact v_iret X hr hw (gD D_L_wave_0 11 rfl)
    · refine ⟨_, gCat1 htab (by decide) lk_xl_1 (by simp [gNC, exN]) (by decide) (by decide) lk_xl_2 (by simp [gNB, exN]) rfl, ?_⟩
      replace hw := hw hx hf
      clear hx hf
      refine v_astore X [(4, va_rf (some q59)), (0, va_rf (some a0)), (1, .int x1), (2, .int x2), (3, va_rf (some a3))] (gD D_L_wave_0 12 rfl) (by decide) rfl ?_
      refine v_iconst X 2 (gD D_L_wave_0 13 rfl) (by decide) ?_
      exact v_iret X hr hw (gD D_L_wave_0 14 rfl)
    · refine ⟨_, gCat2 htab (by decide) lk_xl_1 (by simp [gNC, exN]) (by decide) lk_xl_2 (by simp [gNC, exN]) (by decide) (by decide) lk_xl_3 (by simp [gNB, exN]) rfl, ?_⟩
      replace hw := hw hx hf
      clear hx hf
      refine v_astore X [(4, va_rf (some q59)), (0, va_rf (some a0)), (1, .int x1), (2, .int x2), (3, va_rf (some a3))] (gD D_L_wave_0 15 rfl) (by decide) rfl ?_
      refine v_iconst X 3 (gD D_L_wave_0 16 rfl) (by decide) ?_
      exact v_iret X hr hw (gD D_L_wave_0 17 rfl)
  replace hw := hq hx hf
  clear hq hx hf
  refine v_i2l X (gD D_L_wave_0 6 rfl) ?_
  obtain ⟨h62, hw⟩ := hw
  refine v_last X 1 rfl rfl h62 (gD D_L_wave_0 7 rfl) (fun s63 es63 => ?_)
  replace hw := hw s63 es63
  refine v_goto X 25 (gD D_L_wave_0 8 rfl) (by decide) ?_
  refine v_iconst X 0 (gD D_L_wave_0 18 rfl) (by decide) ?_
  exact v_iret X hr hw (gD D_L_wave_0 19 rfl)
