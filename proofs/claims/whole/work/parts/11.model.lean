set_option maxRecDepth 100000 in
set_option maxHeartbeats 4000000 in
theorem c_X12_bill {l : Launch} {G : GX} (htr : l.stackTraces = false) {σ : St} {a0 : Nat} {Q : Int32 → St → Prop} (ht : tvOk σ [(some a0, 13)]) (hw : w_X12_bill a0 σ Q) : MI l G 2 σ yX12_bill cX12_bill 1 (some .int) 0 0 0 [va_rf (some a0)] Q := by
  unfold w_X12_bill at hw
  refine m_start RX12 (by decide) htr ht (Nat.le_of_ble_eq_true rfl) rfl (lv := [(0, va_rf (some a0))]) (d := 2) (fun p e s m args below meth c X hr hin => ?_)
  refine v_aload_n X 0 rfl (gD D_X12_bill_0 0 rfl) rfl ?_
  refine v_iconst X 0 (gD D_X12_bill_0 1 rfl) (by decide) ?_
  refine v_putI X RX12 TX12 65 13 12 (by decide) rfl gin12 0 1200 tyX12 tyX12_ok nmX12 RX12 (Or.inl rfl) 0 rfl .int (int_fit _) rfl (by decide) (Or.inl rfl) lk_fRX12_179 rfl rfl (gD D_X12_bill_0 2 rfl) (fun s51 es51 => ?_)
  replace hw := hw s51 es51
  refine v_aload_n X 0 rfl (gD D_X12_bill_0 3 rfl) rfl ?_
  refine v_getI X RX12 TX12 65 13 12 (by decide) rfl gin12 2 1202 RX12 (Or.inl rfl) 0 rfl rfl (by decide) lk_fRX12_254 (gD D_X12_bill_0 4 rfl) ?_
  exact v_iret X hr hw (gD D_X12_bill_0 5 rfl)
set_option maxRecDepth 100000 in
set_option maxHeartbeats 4000000 in
theorem c_X12_books {l : Launch} {G : GX} (htr : l.stackTraces = false) {σ : St} {a0 : Nat} {x1 : Int32} {x2 : Int32} {x3 : Int32} {Q : St → Prop} (ht : tvOk σ [(some a0, 13)]) (hw : w_X12_books a0 x1 x2 x3 σ Q) : MV l G 2 σ yX12_books cX12_books 4 0 0 0 [va_rf (some a0), .int x1, .int x2, .int x3] Q := by
  unfold w_X12_books at hw
  refine m_start RX12 (by decide) htr ht (Nat.le_of_ble_eq_true rfl) rfl (lv := [(0, va_rf (some a0)), (1, .int x1), (2, .int x2), (3, .int x3)]) (d := 2) (fun p e s m args below meth c X hr hin => ?_)
  refine v_aload_n X 0 rfl (gD D_X12_books_0 0 rfl) rfl ?_
  refine v_getR X RX12 TX12 65 13 12 (by decide) rfl gin12 19 1219 RX12 (Or.inl rfl) 0 21 rfl rfl rfl (by decide) lk_fRX12_53 (gD D_X12_books_0 1 rfl) (fun o51 eo51 => ?_)
  replace hw := hw o51 eo51
  refine v_bipush X 12 (gD D_X12_books_0 2 rfl) (by decide) ?_
  refine v_iload_n X 1 rfl (gD D_X12_books_0 3 rfl) rfl ?_
  refine v_imul X (gD D_X12_books_0 4 rfl) ?_
  refine v_iload_n X 2 rfl (gD D_X12_books_0 5 rfl) rfl ?_
  refine v_iadd X (gD D_X12_books_0 6 rfl) ?_
  refine v_topi (fun x52 ex52 => ?_)
  replace hw := hw x52 ex52
  refine v_dup2 X (gD D_X12_books_0 7 rfl) rfl (rf_cat _) ?_
  obtain ⟨a53, rfl, hw⟩ := hw
  obtain ⟨h54, hw⟩ := hw
  refine v_iald X 0 rfl (by decide) h54 (gD D_X12_books_0 8 rfl) ?_
  refine v_iload_n X 3 rfl (gD D_X12_books_0 9 rfl) rfl ?_
  refine v_iadd X (gD D_X12_books_0 10 rfl) ?_
  obtain ⟨h55, hw⟩ := hw
  refine v_iast X 0 rfl (by decide) (Or.inl rfl) h55 (gD D_X12_books_0 11 rfl) (fun s56 es56 => ?_)
  replace hw := hw s56 es56
  refine v_iload_n X 1 rfl (gD D_X12_books_0 12 rfl) rfl ?_
  refine v_bipush X 18 (gD D_X12_books_0 13 rfl) (by decide) ?_
  refine v_icmp_ge X 37 (gD D_X12_books_0 14 rfl) (by decide) (fun c57 => ?_) (fun c57 => ?_)
  · replace hw := hw.1 c57
    exact v_vret X hr hw (gD D_X12_books_0 26 rfl)
  · replace hw := hw.2 c57
    refine v_iload_n X 3 rfl (gD D_X12_books_0 15 rfl) rfl ?_
    refine v_if_eq X 37 (gD D_X12_books_0 16 rfl) (by decide) (fun c58 => ?_) (fun c58 => ?_)
    · replace hw := hw.1 c58
      exact v_vret X hr hw (gD D_X12_books_0 26 rfl)
    · replace hw := hw.2 c58
      refine v_aload_n X 0 rfl (gD D_X12_books_0 17 rfl) rfl ?_
      refine v_getR X RX12 TX12 65 13 12 (by decide) rfl gin12 21 1221 RX12 (Or.inl rfl) 1 21 rfl rfl rfl (by decide) lk_fRX12_59 (gD D_X12_books_0 18 rfl) (fun o59 eo59 => ?_)
      replace hw := hw o59 eo59
      refine v_bipush X 12 (gD D_X12_books_0 19 rfl) (by decide) ?_
      refine v_iload_n X 1 rfl (gD D_X12_books_0 20 rfl) rfl ?_
      refine v_imul X (gD D_X12_books_0 21 rfl) ?_
      refine v_iload_n X 2 rfl (gD D_X12_books_0 22 rfl) rfl ?_
      refine v_iadd X (gD D_X12_books_0 23 rfl) ?_
      refine v_iconst X (-1) (gD D_X12_books_0 24 rfl) (by decide) ?_
      obtain ⟨a60, rfl, hw⟩ := hw
      obtain ⟨h61, hw⟩ := hw
      refine v_iast X 0 rfl (by decide) (Or.inl rfl) h61 (gD D_X12_books_0 25 rfl) (fun s62 es62 => ?_)
      replace hw := hw s62 es62
      exact v_vret X hr hw (gD D_X12_books_0 26 rfl)
set_option maxRecDepth 100000 in
set_option maxHeartbeats 4000000 in
theorem t_X12_cameOf_36 {p : Program} {l : Launch} {e : Env} {s : State} {m : MethodId} {args : Array Value} {below : List Frame} {meth : Method} {c : Code} {G : GX} {σ0 : St} {mc ms : Nat} {Q : Int32 → St → Prop} (X : VC p l (rmD 0 mc ms) s m args meth c G 0 mc ms 5 RX12 cX12_cameOf) (hr : meth.sig.returnType = (some .int)) (hin : meth.name = yX12_cameOf.name) (htr : l.stackTraces = false) {K5 : Nat → Int32 → Int32 → Int32 → Int32 → St → Prop} (hK5 : ∀ (a0 : Nat) (x1 : Int32) (x2 : Int32) (x3 : Int32) (x4 : Int32) (σ : St), K5 a0 x1 x2 x3 x4 σ → V p l e (rmD 0 mc ms) s m args below meth c (MQ below (va_Qi Q (gB G 2 σ0) (GA G)) args s mc ms (GA G)) G 2 σ0 mc ms 5 σ 0 0 [(some a0, 13)] 5 [(0, va_rf (some a0)), (1, .int x1), (2, .int x2), (3, .int x3), (4, .int x4)] []) : ∀ (a0 : Nat) (x1 : Int32) (x2 : Int32) (x4 : Int32) (xs0 : Int32) (xs1 : Int32) (σ : St), w_X12_cameOf_36 Q K5 a0 x1 x2 x4 xs0 xs1 σ → V p l e (rmD 0 mc ms) s m args below meth c (MQ below (va_Qi Q (gB G 2 σ0) (GA G)) args s mc ms (GA G)) G 2 σ0 mc ms 5 σ 0 0 [(some a0, 13)] 36 [(0, va_rf (some a0)), (1, .int x1), (2, .int x2), (4, .int x4)] [.int xs1, .int xs0] := by
  intro a0 x1 x2 x4 xs0 xs1 σ hw
  unfold w_X12_cameOf_36 at hw
  refine v_iload_n X 2 rfl (gD D_X12_cameOf_0 21 rfl) rfl ?_
  refine v_icmp_ne X 55 (gD D_X12_cameOf_0 22 rfl) (by decide) (fun c59 => ?_) (fun c59 => ?_)
  · replace hw := hw.1 c59
    refine v_iconst X 0 (gD D_X12_cameOf_0 32 rfl) (by decide) ?_
    refine v_iadd X (gD D_X12_cameOf_0 33 rfl) ?_
    refine v_topi (fun x60 ex60 => ?_)
    replace hw := hw x60 ex60
    refine v_istore_n X [(3, .int x60), (0, va_rf (some a0)), (1, .int x1), (2, .int x2), (4, .int x4)] (gD D_X12_cameOf_0 34 rfl) rfl (by decide) rfl ?_
    refine v_iinc X (x4 + 1) 4 rfl [(4, .int (x4 + 1)), (3, .int x60), (0, va_rf (some a0)), (1, .int x1), (2, .int x2)] (gD D_X12_cameOf_0 35 rfl) rfl (by decide) rfl ?_
    refine v_goto X 5 (gD D_X12_cameOf_0 36 rfl) (by decide) ?_
    exact v_sub [0] [2, 3, 4, 1, 0] rfl rfl (hK5 a0 x1 x2 x60 (x4 + 1) σ hw)
  · replace hw := hw.2 c59
    refine v_aload_n X 0 rfl (gD D_X12_cameOf_0 23 rfl) rfl ?_
    refine v_getR X RX12 TX12 65 13 12 (by decide) rfl gin12 26 1226 RX12 (Or.inl rfl) 0 21 rfl rfl rfl (by decide) lk_fRX12_71 (gD D_X12_cameOf_0 24 rfl) (fun o61 eo61 => ?_)
    replace hw := hw o61 eo61
    refine v_bipush X 12 (gD D_X12_cameOf_0 25 rfl) (by decide) ?_
    refine v_iload_n X 1 rfl (gD D_X12_cameOf_0 26 rfl) rfl ?_
    refine v_imul X (gD D_X12_cameOf_0 27 rfl) ?_
    refine v_iload X 3 rfl (gD D_X12_cameOf_0 28 rfl) ?_
    refine v_iadd X (gD D_X12_cameOf_0 29 rfl) ?_
    obtain ⟨a62, rfl, hw⟩ := hw
    obtain ⟨h63, hw⟩ := hw
    refine v_iald X 0 rfl (by decide) h63 (gD D_X12_cameOf_0 30 rfl) ?_
    refine v_goto X 56 (gD D_X12_cameOf_0 31 rfl) (by decide) ?_
    refine v_iadd X (gD D_X12_cameOf_0 33 rfl) ?_
    refine v_topi (fun x64 ex64 => ?_)
    replace hw := hw x64 ex64
    refine v_istore_n X [(3, .int x64), (0, va_rf (some a0)), (1, .int x1), (2, .int x2), (4, .int x4)] (gD D_X12_cameOf_0 34 rfl) rfl (by decide) rfl ?_
    refine v_iinc X (x4 + 1) 4 rfl [(4, .int (x4 + 1)), (3, .int x64), (0, va_rf (some a0)), (1, .int x1), (2, .int x2)] (gD D_X12_cameOf_0 35 rfl) rfl (by decide) rfl ?_
    refine v_goto X 5 (gD D_X12_cameOf_0 36 rfl) (by decide) ?_
    exact v_sub [1] [2, 3, 4, 1, 0] rfl rfl (hK5 a0 x1 x2 x64 (x4 + 1) σ hw)
set_option maxRecDepth 100000 in
set_option maxHeartbeats 4000000 in
theorem t_X12_cameOf_5 {p : Program} {l : Launch} {e : Env} {s : State} {m : MethodId} {args : Array Value} {below : List Frame} {meth : Method} {c : Code} {G : GX} {σ0 : St} {mc ms : Nat} {Q : Int32 → St → Prop} (X : VC p l (rmD 0 mc ms) s m args meth c G 0 mc ms 5 RX12 cX12_cameOf) (hr : meth.sig.returnType = (some .int)) (hin : meth.name = yX12_cameOf.name) (htr : l.stackTraces = false) : ∀ (f : Nat) (a0 : Nat) (x1 : Int32) (x2 : Int32) (x3 : Int32) (x4 : Int32) (σ : St), w_X12_cameOf_5 Q  f a0 x1 x2 x3 x4 σ → V p l e (rmD 0 mc ms) s m args below meth c (MQ below (va_Qi Q (gB G 2 σ0) (GA G)) args s mc ms (GA G)) G 2 σ0 mc ms 5 σ 0 0 [(some a0, 13)] 5 [(0, va_rf (some a0)), (1, .int x1), (2, .int x2), (3, .int x3), (4, .int x4)] [] := by
  intro f
  induction f with
  | zero => intro a0 x1 x2 x3 x4 σ hw; exact hw.elim
  | succ f ih =>
    intro a0 x1 x2 x3 x4 σ hw
    unfold w_X12_cameOf_5 at hw
    refine v_iload X 4 rfl (gD D_X12_cameOf_0 4 rfl) ?_
    refine v_aload_n X 0 rfl (gD D_X12_cameOf_0 5 rfl) rfl ?_
    refine v_getI X RX12 TX12 65 13 12 (by decide) rfl gin12 15 1215 RX12 (Or.inl rfl) 0 rfl rfl (by decide) lk_fRX12_187 (gD D_X12_cameOf_0 6 rfl) ?_
    refine v_icmp_ge X 64 (gD D_X12_cameOf_0 7 rfl) (by decide) (fun c51 => ?_) (fun c51 => ?_)
    · replace hw := hw.1 c51
      refine v_iload_n X 3 rfl (gD D_X12_cameOf_0 37 rfl) rfl ?_
      exact v_iret X hr hw (gD D_X12_cameOf_0 38 rfl)
    · replace hw := hw.2 c51
      refine v_iload_n X 3 rfl (gD D_X12_cameOf_0 8 rfl) rfl ?_
      refine v_aload_n X 0 rfl (gD D_X12_cameOf_0 9 rfl) rfl ?_
      refine v_getR X RX12 TX12 65 13 12 (by decide) rfl gin12 16 1216 RX12 (Or.inl rfl) 0 21 rfl rfl rfl (by decide) lk_fRX12_44 (gD D_X12_cameOf_0 10 rfl) (fun o52 eo52 => ?_)
      replace hw := hw o52 eo52
      refine v_iload X 4 rfl (gD D_X12_cameOf_0 11 rfl) ?_
      obtain ⟨a53, rfl, hw⟩ := hw
      obtain ⟨h54, hw⟩ := hw
      refine v_iald X 0 rfl (by decide) h54 (gD D_X12_cameOf_0 12 rfl) ?_
      refine v_aload_n X 0 rfl (gD D_X12_cameOf_0 13 rfl) rfl ?_
      refine v_getR X RX12 TX12 65 13 12 (by decide) rfl gin12 23 1223 RX12 (Or.inl rfl) 1 21 rfl rfl rfl (by decide) lk_fRX12_62 (gD D_X12_cameOf_0 14 rfl) (fun o55 eo55 => ?_)
      replace hw := hw o55 eo55
      refine v_iload_n X 1 rfl (gD D_X12_cameOf_0 15 rfl) rfl ?_
      obtain ⟨a56, rfl, hw⟩ := hw
      obtain ⟨h57, hw⟩ := hw
      refine v_iald X 0 rfl (by decide) h57 (gD D_X12_cameOf_0 16 rfl) ?_
      refine v_icmp_ne X 35 (gD D_X12_cameOf_0 17 rfl) (by decide) (fun c58 => ?_) (fun c58 => ?_)
      · replace hw := hw.1 c58
        refine v_iconst X 0 (gD D_X12_cameOf_0 20 rfl) (by decide) ?_
        exact v_sub [2] [0, 1, 2, 4] rfl rfl (t_X12_cameOf_36 X hr hin htr ih a0 x1 x2 x4 x3 0 σ hw)
      · replace hw := hw.2 c58
        refine v_iconst X 1 (gD D_X12_cameOf_0 18 rfl) (by decide) ?_
        refine v_goto X 36 (gD D_X12_cameOf_0 19 rfl) (by decide) ?_
        exact v_sub [2] [0, 1, 2, 4] rfl rfl (t_X12_cameOf_36 X hr hin htr ih a0 x1 x2 x4 x3 1 σ hw)
set_option maxRecDepth 100000 in
set_option maxHeartbeats 4000000 in
theorem c_X12_cameOf {l : Launch} {G : GX} (htr : l.stackTraces = false) {σ : St} {a0 : Nat} {x1 : Int32} {x2 : Int32} {Q : Int32 → St → Prop} (ht : tvOk σ [(some a0, 13)]) (hw : w_X12_cameOf a0 x1 x2 σ Q) : MI l G 2 σ yX12_cameOf cX12_cameOf 5 (some .int) 0 0 0 [va_rf (some a0), .int x1, .int x2] Q := by
  unfold w_X12_cameOf at hw
  refine m_start RX12 (by decide) htr ht (Nat.le_of_ble_eq_true rfl) rfl (lv := [(0, va_rf (some a0)), (1, .int x1), (2, .int x2)]) (d := 2) (fun p e s m args below meth c X hr hin => ?_)
  refine v_iconst X 0 (gD D_X12_cameOf_0 0 rfl) (by decide) ?_
  refine v_istore_n X [(3, .int 0), (0, va_rf (some a0)), (1, .int x1), (2, .int x2)] (gD D_X12_cameOf_0 1 rfl) rfl (by decide) rfl ?_
  refine v_iconst X 0 (gD D_X12_cameOf_0 2 rfl) (by decide) ?_
  refine v_istore X [(4, .int 0), (3, .int 0), (0, va_rf (some a0)), (1, .int x1), (2, .int x2)] (gD D_X12_cameOf_0 3 rfl) (by decide) rfl ?_
  obtain ⟨f65, hw⟩ := hw
  exact v_sub [0] [2, 3, 4, 1, 0] rfl rfl (t_X12_cameOf_5 X hr hin htr  f65 a0 x1 x2 0 0 σ hw)
set_option maxRecDepth 100000 in
set_option maxHeartbeats 4000000 in
theorem t_X12_ends_72 {p : Program} {l : Launch} {e : Env} {s : State} {m : MethodId} {args : Array Value} {below : List Frame} {meth : Method} {c : Code} {G : GX} {σ0 : St} {mc ms : Nat} {Q : St → Prop} (X : VC p l (rmD 0 mc ms) s m args meth c G 0 mc ms 7 RX12 cX12_ends) (hr : meth.sig.returnType = none) (hin : meth.name = yX12_ends.name) (htr : l.stackTraces = false) : ∀ (f : Nat) (a0 : Nat) (x1 : Int32) (x3 : Int32) (x4 : Int32) (x5 : Int32) (σ : St), w_X12_ends_72 Q  f a0 x1 x3 x4 x5 σ → V p l e (rmD 0 mc ms) s m args below meth c (MQ below (va_Qv Q (gB G 2 σ0) (GA G)) args s mc ms (GA G)) G 2 σ0 mc ms 7 σ 0 0 [(some a0, 13)] 72 [(0, va_rf (some a0)), (1, .int x1), (3, .int x3), (4, .int x4), (5, .int x5)] [] := by
  intro f
  induction f with
  | zero => intro a0 x1 x3 x4 x5 σ hw; exact hw.elim
  | succ f ih =>
    intro a0 x1 x3 x4 x5 σ hw
    unfold w_X12_ends_72 at hw
    refine v_iload X 4 rfl (gD D_X12_ends_0 41 rfl) ?_
    refine v_aload_n X 0 rfl (gD D_X12_ends_0 42 rfl) rfl ?_
    refine v_getR X RX12 TX12 65 13 12 (by decide) rfl gin12 59 1259 RX12 (Or.inl rfl) 0 21 rfl rfl rfl (by decide) lk_fRX12_161 (gD D_X12_ends_0 43 rfl) (fun o61 eo61 => ?_)
    replace hw := hw o61 eo61
    refine v_iload_n X 2 rfl (gD D_X12_ends_0 44 rfl) rfl ?_
    obtain ⟨a62, rfl, hw⟩ := hw
    obtain ⟨h63, hw⟩ := hw
    refine v_iald X 0 rfl (by decide) h63 (gD D_X12_ends_0 45 rfl) ?_
    refine v_icmp_ge X 126 (gD D_X12_ends_0 46 rfl) (by decide) (fun c64 => ?_) (fun c64 => ?_)
    · replace hw := hw.1 c64
      refine v_aload_n X 0 rfl (gD D_X12_ends_0 71 rfl) rfl ?_
      refine v_getR X RX12 TX12 65 13 12 (by decide) rfl gin12 59 1259 RX12 (Or.inl rfl) 1 21 rfl rfl rfl (by decide) lk_fRX12_161 (gD D_X12_ends_0 72 rfl) (fun o65 eo65 => ?_)
      replace hw := hw o65 eo65
      refine v_iload_n X 2 rfl (gD D_X12_ends_0 73 rfl) rfl ?_
      refine v_iload X 3 rfl (gD D_X12_ends_0 74 rfl) ?_
      obtain ⟨a66, rfl, hw⟩ := hw
      obtain ⟨h67, hw⟩ := hw
      refine v_iast X 0 rfl (by decide) (Or.inl rfl) h67 (gD D_X12_ends_0 75 rfl) (fun s68 es68 => ?_)
      replace hw := hw s68 es68
      exact v_vret X hr hw (gD D_X12_ends_0 76 rfl)
    · replace hw := hw.2 c64
      refine v_aload_n X 0 rfl (gD D_X12_ends_0 47 rfl) rfl ?_
      refine v_getR X RX12 TX12 65 13 12 (by decide) rfl gin12 58 1258 RX12 (Or.inl rfl) 1 21 rfl rfl rfl (by decide) lk_fRX12_158 (gD D_X12_ends_0 48 rfl) (fun o69 eo69 => ?_)
      replace hw := hw o69 eo69
      refine v_bipush X 60 (gD D_X12_ends_0 49 rfl) (by decide) ?_
      refine v_iload_n X 2 rfl (gD D_X12_ends_0 50 rfl) rfl ?_
      refine v_imul X (gD D_X12_ends_0 51 rfl) ?_
      refine v_iload X 4 rfl (gD D_X12_ends_0 52 rfl) ?_
      refine v_iadd X (gD D_X12_ends_0 53 rfl) ?_
      obtain ⟨a70, rfl, hw⟩ := hw
      obtain ⟨h71, hw⟩ := hw
      refine v_iald X 0 rfl (by decide) h71 (gD D_X12_ends_0 54 rfl) ?_
      refine v_topi (fun x72 ex72 => ?_)
      replace hw := hw x72 ex72
      refine v_istore X [(6, .int x72), (0, va_rf (some a0)), (1, .int x1), (3, .int x3), (4, .int x4), (5, .int x5)] (gD D_X12_ends_0 55 rfl) (by decide) rfl ?_
      refine v_iload X 0 rfl (gD D_X12_ends_0 56 rfl) ?_
      refine v_iload_n X 2 rfl (gD D_X12_ends_0 57 rfl) rfl ?_
      refine v_icmp_eq X 120 (gD D_X12_ends_0 58 rfl) (by decide) (fun c73 => ?_) (fun c73 => ?_)
      · replace hw := hw.1 c73
        refine v_iinc X (x5 + 1) 5 rfl [(5, .int (x5 + 1)), (6, .int x72), (0, va_rf (some a0)), (1, .int x1), (3, .int x3), (4, .int x4)] (gD D_X12_ends_0 69 rfl) rfl (by decide) rfl ?_
        refine v_goto X 72 (gD D_X12_ends_0 70 rfl) (by decide) ?_
        exact v_sub [2] [2, 3, 4, 5, 0] rfl rfl (ih a0 x1 x3 x4 (x5 + 1) σ hw)
      · replace hw := hw.2 c73
        refine v_aload_n X 1 rfl (gD D_X12_ends_0 59 rfl) rfl ?_
        refine v_getR X RX12 TX12 65 13 12 (by decide) rfl gin12 58 1258 RX12 (Or.inl rfl) 2 21 rfl rfl rfl (by decide) lk_fRX12_158 (gD D_X12_ends_0 60 rfl) (fun o74 eo74 => ?_)
        replace hw := hw o74 eo74
        refine v_bipush X 60 (gD D_X12_ends_0 61 rfl) (by decide) ?_
        refine v_iload_n X 3 rfl (gD D_X12_ends_0 62 rfl) rfl ?_
        refine v_imul X (gD D_X12_ends_0 63 rfl) ?_
        refine v_iload X 4 rfl (gD D_X12_ends_0 64 rfl) ?_
        refine v_iadd X (gD D_X12_ends_0 65 rfl) ?_
        refine v_iload X 0 rfl (gD D_X12_ends_0 66 rfl) ?_
        obtain ⟨a75, rfl, hw⟩ := hw
        obtain ⟨h76, hw⟩ := hw
        refine v_iast X 0 rfl (by decide) (Or.inl rfl) h76 (gD D_X12_ends_0 67 rfl) (fun s77 es77 => ?_)
        replace hw := hw s77 es77
        refine v_iinc X (x4 + 1) 4 rfl [(4, .int (x4 + 1)), (6, .int x72), (0, va_rf (some a0)), (1, .int x1), (3, .int x3), (5, .int x5)] (gD D_X12_ends_0 68 rfl) rfl (by decide) rfl ?_
        refine v_iinc X (x5 + 1) 5 rfl [(5, .int (x5 + 1)), (4, .int (x4 + 1)), (6, .int x72), (0, va_rf (some a0)), (1, .int x1), (3, .int x3)] (gD D_X12_ends_0 69 rfl) rfl (by decide) rfl ?_
        refine v_goto X 72 (gD D_X12_ends_0 70 rfl) (by decide) ?_
        exact v_sub [3] [3, 4, 5, 1, 0] rfl rfl (ih a0 x1 x3 (x4 + 1) (x5 + 1) s77 hw)
set_option maxRecDepth 100000 in
set_option maxHeartbeats 4000000 in
theorem t_X12_ends_54 {p : Program} {l : Launch} {e : Env} {s : State} {m : MethodId} {args : Array Value} {below : List Frame} {meth : Method} {c : Code} {G : GX} {σ0 : St} {mc ms : Nat} {Q : St → Prop} (X : VC p l (rmD 0 mc ms) s m args meth c G 0 mc ms 7 RX12 cX12_ends) (hr : meth.sig.returnType = none) (hin : meth.name = yX12_ends.name) (htr : l.stackTraces = false) {K17 : Nat → Int32 → Int32 → Int32 → St → Prop} (hK17 : ∀ (a0 : Nat) (x1 : Int32) (x3 : Int32) (x4 : Int32) (σ : St), K17 a0 x1 x3 x4 σ → V p l e (rmD 0 mc ms) s m args below meth c (MQ below (va_Qv Q (gB G 2 σ0) (GA G)) args s mc ms (GA G)) G 2 σ0 mc ms 7 σ 0 0 [(some a0, 13)] 17 [(0, va_rf (some a0)), (1, .int x1), (3, .int x3), (4, .int x4)] []) : ∀ (a0 : Nat) (x1 : Int32) (x3 : Int32) (x4 : Int32) (os0 : Option Nat) (xs1 : Int32) (xs2 : Int32) (σ : St), w_X12_ends_54 Q K17 a0 x1 x3 x4 os0 xs1 xs2 σ → V p l e (rmD 0 mc ms) s m args below meth c (MQ below (va_Qv Q (gB G 2 σ0) (GA G)) args s mc ms (GA G)) G 2 σ0 mc ms 7 σ 0 0 [(some a0, 13), (os0, 21)] 54 [(0, va_rf (some a0)), (1, .int x1), (3, .int x3), (4, .int x4)] [.int xs2, .int xs1, va_rf os0] := by
  intro a0 x1 x3 x4 os0 xs1 xs2 σ hw
  unfold w_X12_ends_54 at hw
  obtain ⟨a87, rfl, hw⟩ := hw
  obtain ⟨h88, hw⟩ := hw
  refine v_iast X 1 rfl (by decide) (Or.inl rfl) h88 (gD D_X12_ends_0 31 rfl) (fun s89 es89 => ?_)
  replace hw := hw s89 es89
  refine v_iinc X (x4 + 1) 3 rfl [(4, .int (x4 + 1)), (0, va_rf (some a0)), (1, .int x1), (3, .int x3)] (gD D_X12_ends_0 32 rfl) rfl (by decide) rfl ?_
  refine v_goto X 17 (gD D_X12_ends_0 33 rfl) (by decide) ?_
  exact v_sub [0] [1, 2, 3, 0] rfl rfl (hK17 a0 x1 x3 (x4 + 1) s89 hw)
set_option maxRecDepth 100000 in
set_option maxHeartbeats 4000000 in
theorem t_X12_ends_17 {p : Program} {l : Launch} {e : Env} {s : State} {m : MethodId} {args : Array Value} {below : List Frame} {meth : Method} {c : Code} {G : GX} {σ0 : St} {mc ms : Nat} {Q : St → Prop} (X : VC p l (rmD 0 mc ms) s m args meth c G 0 mc ms 7 RX12 cX12_ends) (hr : meth.sig.returnType = none) (hin : meth.name = yX12_ends.name) (htr : l.stackTraces = false) : ∀ (f : Nat) (a0 : Nat) (x1 : Int32) (x3 : Int32) (x4 : Int32) (σ : St), w_X12_ends_17 Q  f a0 x1 x3 x4 σ → V p l e (rmD 0 mc ms) s m args below meth c (MQ below (va_Qv Q (gB G 2 σ0) (GA G)) args s mc ms (GA G)) G 2 σ0 mc ms 7 σ 0 0 [(some a0, 13)] 17 [(0, va_rf (some a0)), (1, .int x1), (3, .int x3), (4, .int x4)] [] := by
  intro f
  induction f with
  | zero => intro a0 x1 x3 x4 σ hw; exact hw.elim
  | succ f ih =>
    intro a0 x1 x3 x4 σ hw
    unfold w_X12_ends_17 at hw
    refine v_iload X 3 rfl (gD D_X12_ends_0 12 rfl) ?_
    refine v_aload_n X 0 rfl (gD D_X12_ends_0 13 rfl) rfl ?_
    refine v_getI X RX12 TX12 65 13 12 (by decide) rfl gin12 39 1239 RX12 (Or.inl rfl) 0 rfl rfl (by decide) lk_fRX12_203 (gD D_X12_ends_0 14 rfl) ?_
    refine v_icmp_ge X 61 (gD D_X12_ends_0 15 rfl) (by decide) (fun c59 => ?_) (fun c59 => ?_)
    · replace hw := hw.1 c59
      refine v_iload_n X 2 rfl (gD D_X12_ends_0 34 rfl) rfl ?_
      refine v_iconst X (-1) (gD D_X12_ends_0 35 rfl) (by decide) ?_
      refine v_icmp_eq X 134 (gD D_X12_ends_0 36 rfl) (by decide) (fun c60 => ?_) (fun c60 => ?_)
      · replace hw := hw.1 c60
        exact v_vret X hr hw (gD D_X12_ends_0 76 rfl)
      · replace hw := hw.2 c60
        refine v_iconst X 0 (gD D_X12_ends_0 37 rfl) (by decide) ?_
        refine v_istore X [(4, .int 0), (0, va_rf (some a0)), (1, .int x1), (3, .int x3)] (gD D_X12_ends_0 38 rfl) (by decide) rfl ?_
        refine v_iconst X 0 (gD D_X12_ends_0 39 rfl) (by decide) ?_
        refine v_istore X [(5, .int 0), (4, .int 0), (0, va_rf (some a0)), (1, .int x1), (3, .int x3)] (gD D_X12_ends_0 40 rfl) (by decide) rfl ?_
        obtain ⟨f78, hw⟩ := hw
        exact v_sub [0] [2, 3, 4, 1, 0] rfl rfl (t_X12_ends_72 X hr hin htr  f78 a0 x1 x3 0 0 σ hw)
    · replace hw := hw.2 c59
      refine v_aload_n X 0 rfl (gD D_X12_ends_0 16 rfl) rfl ?_
      refine v_getR X RX12 TX12 65 13 12 (by decide) rfl gin12 43 1243 RX12 (Or.inl rfl) 0 21 rfl rfl rfl (by decide) lk_fRX12_116 (gD D_X12_ends_0 17 rfl) (fun o79 eo79 => ?_)
      replace hw := hw o79 eo79
      refine v_iload X 3 rfl (gD D_X12_ends_0 18 rfl) ?_
      refine v_aload_n X 0 rfl (gD D_X12_ends_0 19 rfl) rfl ?_
      refine v_getR X RX12 TX12 65 13 12 (by decide) rfl gin12 44 1244 RX12 (Or.inl rfl) 1 21 rfl rfl rfl (by decide) lk_fRX12_119 (gD D_X12_ends_0 20 rfl) (fun o80 eo80 => ?_)
      replace hw := hw o80 eo80
      refine v_iload X 3 rfl (gD D_X12_ends_0 21 rfl) ?_
      obtain ⟨a81, rfl, hw⟩ := hw
      obtain ⟨h82, hw⟩ := hw
      refine v_iald X 0 rfl (by decide) h82 (gD D_X12_ends_0 22 rfl) ?_
      refine v_iload_n X 1 rfl (gD D_X12_ends_0 23 rfl) rfl ?_
      refine v_icmp_ne X 47 (gD D_X12_ends_0 24 rfl) (by decide) (fun c83 => ?_) (fun c83 => ?_)
      · replace hw := hw.1 c83
        refine v_aload_n X 0 rfl (gD D_X12_ends_0 27 rfl) rfl ?_
        refine v_getR X RX12 TX12 65 13 12 (by decide) rfl gin12 43 1243 RX12 (Or.inl rfl) 2 21 rfl rfl rfl (by decide) lk_fRX12_116 (gD D_X12_ends_0 28 rfl) (fun o84 eo84 => ?_)
        replace hw := hw o84 eo84
        refine v_iload X 3 rfl (gD D_X12_ends_0 29 rfl) ?_
        obtain ⟨a85, rfl, hw⟩ := hw
        obtain ⟨h86, hw⟩ := hw
        refine v_iald X 0 rfl (by decide) h86 (gD D_X12_ends_0 30 rfl) ?_
        exact v_sub [3, 2] [0, 1, 2, 3] rfl rfl (t_X12_ends_54 X hr hin htr ih a0 x1 x3 x4 o79 x4 (sA σ a85 x4.toNatClampNeg) σ hw)
      · replace hw := hw.2 c83
        refine v_iconst X 0 (gD D_X12_ends_0 25 rfl) (by decide) ?_
        refine v_goto X 54 (gD D_X12_ends_0 26 rfl) (by decide) ?_
        exact v_sub [2, 1] [0, 1, 2, 3] rfl rfl (t_X12_ends_54 X hr hin htr ih a0 x1 x3 x4 o79 x4 0 σ hw)
set_option maxRecDepth 100000 in
set_option maxHeartbeats 4000000 in
theorem c_X12_ends {l : Launch} {G : GX} (htr : l.stackTraces = false) {σ : St} {a0 : Nat} {x1 : Int32} {x2 : Int32} {Q : St → Prop} (ht : tvOk σ [(some a0, 13)]) (hw : w_X12_ends a0 x1 x2 σ Q) : MV l G 2 σ yX12_ends cX12_ends 7 0 0 0 [va_rf (some a0), .int x1, .int x2] Q := by
  unfold w_X12_ends at hw
  refine m_start RX12 (by decide) htr ht (Nat.le_of_ble_eq_true rfl) rfl (lv := [(0, va_rf (some a0)), (1, .int x1), (2, .int x2)]) (d := 2) (fun p e s m args below meth c X hr hin => ?_)
  refine v_aload_n X 0 rfl (gD D_X12_ends_0 0 rfl) rfl ?_
  refine v_getR X RX12 TX12 65 13 12 (by decide) rfl gin12 53 1253 RX12 (Or.inl rfl) 0 21 rfl rfl rfl (by decide) lk_fRX12_143 (gD D_X12_ends_0 1 rfl) (fun o51 eo51 => ?_)
  replace hw := hw o51 eo51
  refine v_iload_n X 1 rfl (gD D_X12_ends_0 2 rfl) rfl ?_
  obtain ⟨a52, rfl, hw⟩ := hw
  obtain ⟨h53, hw⟩ := hw
  refine v_iald X 0 rfl (by decide) h53 (gD D_X12_ends_0 3 rfl) ?_
  refine v_topi (fun x54 ex54 => ?_)
  replace hw := hw x54 ex54
  refine v_istore_n X [(3, .int x54), (0, va_rf (some a0)), (1, .int x1), (2, .int x2)] (gD D_X12_ends_0 4 rfl) rfl (by decide) rfl ?_
  refine v_aload_n X 1 rfl (gD D_X12_ends_0 5 rfl) rfl ?_
  refine v_getR X RX12 TX12 65 13 12 (by decide) rfl gin12 52 1252 RX12 (Or.inl rfl) 1 21 rfl rfl rfl (by decide) lk_fRX12_140 (gD D_X12_ends_0 6 rfl) (fun o55 eo55 => ?_)
  replace hw := hw o55 eo55
  refine v_iload_n X 2 rfl (gD D_X12_ends_0 7 rfl) rfl ?_
  refine v_iload_n X 3 rfl (gD D_X12_ends_0 8 rfl) rfl ?_
  obtain ⟨a56, rfl, hw⟩ := hw
  obtain ⟨h57, hw⟩ := hw
  refine v_iast X 0 rfl (by decide) (Or.inl rfl) h57 (gD D_X12_ends_0 9 rfl) (fun s58 es58 => ?_)
  replace hw := hw s58 es58
  refine v_iconst X 0 (gD D_X12_ends_0 10 rfl) (by decide) ?_
  refine v_istore X [(4, .int 0), (3, .int x54), (0, va_rf (some a0)), (1, .int x1), (2, .int x2)] (gD D_X12_ends_0 11 rfl) (by decide) rfl ?_
  obtain ⟨f90, hw⟩ := hw
  exact v_sub [2] [2, 3, 1, 0] rfl rfl (t_X12_ends_17 X hr hin htr  f90 a0 x1 x54 0 s58 hw)
set_option maxRecDepth 100000 in
set_option maxHeartbeats 4000000 in
theorem t_X12_fitsInto_78 {p : Program} {l : Launch} {e : Env} {s : State} {m : MethodId} {args : Array Value} {below : List Frame} {meth : Method} {c : Code} {G : GX} {σ0 : St} {mc ms : Nat} {Q : Int32 → St → Prop} (X : VC p l (rmD 0 mc ms) s m args meth c G 0 mc ms 6 RX12 cX12_fitsInto) (hr : meth.sig.returnType = (some .boolean)) (hin : meth.name = yX12_fitsInto.name) (htr : l.stackTraces = false) {K45 : Nat → Int32 → Int32 → Int32 → Int32 → St → Prop} (hK45 : ∀ (a0 : Nat) (x1 : Int32) (x2 : Int32) (x3 : Int32) (x4 : Int32) (σ : St), K45 a0 x1 x2 x3 x4 σ → V p l e (rmD 0 mc ms) s m args below meth c (MQ below (va_Qi Q (gB G 2 σ0) (GA G)) args s mc ms (GA G)) G 2 σ0 mc ms 6 σ 0 0 [(some a0, 13)] 45 [(0, va_rf (some a0)), (1, .int x1), (2, .int x2), (3, .int x3), (4, .int x4)] []) : ∀ (a0 : Nat) (x1 : Int32) (x2 : Int32) (x3 : Int32) (x4 : Int32) (xs0 : Int32) (σ : St), w_X12_fitsInto_78 Q K45 a0 x1 x2 x3 x4 xs0 σ → V p l e (rmD 0 mc ms) s m args below meth c (MQ below (va_Qi Q (gB G 2 σ0) (GA G)) args s mc ms (GA G)) G 2 σ0 mc ms 6 σ 0 0 [(some a0, 13)] 78 [(0, va_rf (some a0)), (1, .int x1), (2, .int x2), (3, .int x3), (4, .int x4)] [.int xs0] := by
  intro a0 x1 x2 x3 x4 xs0 σ hw
  unfold w_X12_fitsInto_78 at hw
  refine v_istore X [(5, .int xs0), (0, va_rf (some a0)), (1, .int x1), (2, .int x2), (3, .int x3), (4, .int x4)] (gD D_X12_fitsInto_0 47 rfl) (by decide) rfl ?_
  refine v_iload_n X 4 rfl (gD D_X12_fitsInto_0 48 rfl) rfl ?_
  refine v_if_eq X 117 (gD D_X12_fitsInto_0 49 rfl) (by decide) (fun c63 => ?_) (fun c63 => ?_)
  · replace hw := hw.1 c63
    refine v_iconst X 0 (gD D_X12_fitsInto_0 69 rfl) (by decide) ?_
    refine v_istore_n X [(3, .int 0), (5, .int xs0), (0, va_rf (some a0)), (1, .int x1), (2, .int x2), (4, .int x4)] (gD D_X12_fitsInto_0 70 rfl) rfl (by decide) rfl ?_
    refine v_iinc X (x4 + 1) 5 rfl [(4, .int (x4 + 1)), (3, .int 0), (5, .int xs0), (0, va_rf (some a0)), (1, .int x1), (2, .int x2)] (gD D_X12_fitsInto_0 71 rfl) rfl (by decide) rfl ?_
    refine v_goto X 45 (gD D_X12_fitsInto_0 72 rfl) (by decide) ?_
    exact v_sub [0] [3, 4, 5, 1, 0] rfl rfl (hK45 a0 x1 x2 0 (x4 + 1) σ hw)
  · replace hw := hw.2 c63
    refine v_iload X 0 rfl (gD D_X12_fitsInto_0 50 rfl) ?_
    refine v_if_eq X 113 (gD D_X12_fitsInto_0 51 rfl) (by decide) (fun c64 => ?_) (fun c64 => ?_)
    · replace hw := hw.1 c64
      refine v_iconst X 1 (gD D_X12_fitsInto_0 67 rfl) (by decide) ?_
      refine v_goto X 118 (gD D_X12_fitsInto_0 68 rfl) (by decide) ?_
      refine v_istore_n X [(3, .int 1), (5, .int xs0), (0, va_rf (some a0)), (1, .int x1), (2, .int x2), (4, .int x4)] (gD D_X12_fitsInto_0 70 rfl) rfl (by decide) rfl ?_
      refine v_iinc X (x4 + 1) 5 rfl [(4, .int (x4 + 1)), (3, .int 1), (5, .int xs0), (0, va_rf (some a0)), (1, .int x1), (2, .int x2)] (gD D_X12_fitsInto_0 71 rfl) rfl (by decide) rfl ?_
      refine v_goto X 45 (gD D_X12_fitsInto_0 72 rfl) (by decide) ?_
      exact v_sub [0] [3, 4, 5, 1, 0] rfl rfl (hK45 a0 x1 x2 1 (x4 + 1) σ hw)
    · replace hw := hw.2 c64
      refine v_aload_n X 1 rfl (gD D_X12_fitsInto_0 52 rfl) rfl ?_
      refine v_getR X RX12 TX12 65 13 12 (by decide) rfl gin12 14 1214 RX12 (Or.inl rfl) 0 22 rfl rfl rfl (by decide) lk_fRX12_40 (gD D_X12_fitsInto_0 53 rfl) (fun o65 eo65 => ?_)
      replace hw := hw o65 eo65
      refine v_iconst X 4 (gD D_X12_fitsInto_0 54 rfl) (by decide) ?_
      refine v_aload_n X 1 rfl (gD D_X12_fitsInto_0 55 rfl) rfl ?_
      refine v_getR X RX12 TX12 65 13 12 (by decide) rfl gin12 12 1212 RX12 (Or.inl rfl) 1 21 rfl rfl rfl (by decide) lk_fRX12_34 (gD D_X12_fitsInto_0 56 rfl) (fun o66 eo66 => ?_)
      replace hw := hw o66 eo66
      refine v_iload X 5 rfl (gD D_X12_fitsInto_0 57 rfl) ?_
      obtain ⟨a67, rfl, hw⟩ := hw
      obtain ⟨h68, hw⟩ := hw
      refine v_iald X 0 rfl (by decide) h68 (gD D_X12_fitsInto_0 58 rfl) ?_
      refine v_imul X (gD D_X12_fitsInto_0 59 rfl) ?_
      refine v_aload_n X 1 rfl (gD D_X12_fitsInto_0 60 rfl) rfl ?_
      refine v_getR X RX12 TX12 65 13 12 (by decide) rfl gin12 12 1212 RX12 (Or.inl rfl) 2 21 rfl rfl rfl (by decide) lk_fRX12_34 (gD D_X12_fitsInto_0 61 rfl) (fun o69 eo69 => ?_)
      replace hw := hw o69 eo69
      refine v_iload_n X 3 rfl (gD D_X12_fitsInto_0 62 rfl) rfl ?_
      obtain ⟨a70, rfl, hw⟩ := hw
      obtain ⟨h71, hw⟩ := hw
      refine v_iald X 0 rfl (by decide) h71 (gD D_X12_fitsInto_0 63 rfl) ?_
      refine v_iadd X (gD D_X12_fitsInto_0 64 rfl) ?_
      obtain ⟨a72, rfl, hw⟩ := hw
      obtain ⟨h73, hw⟩ := hw
      refine v_zald X 2 rfl rfl h73 (gD D_X12_fitsInto_0 65 rfl) ?_
      refine v_if_ne X 117 (gD D_X12_fitsInto_0 66 rfl) (by decide) (fun c74 => ?_) (fun c74 => ?_)
      · replace hw := hw.1 c74
        refine v_iconst X 0 (gD D_X12_fitsInto_0 69 rfl) (by decide) ?_
        refine v_istore_n X [(3, .int 0), (5, .int xs0), (0, va_rf (some a0)), (1, .int x1), (2, .int x2), (4, .int x4)] (gD D_X12_fitsInto_0 70 rfl) rfl (by decide) rfl ?_
        refine v_iinc X (x4 + 1) 5 rfl [(4, .int (x4 + 1)), (3, .int 0), (5, .int xs0), (0, va_rf (some a0)), (1, .int x1), (2, .int x2)] (gD D_X12_fitsInto_0 71 rfl) rfl (by decide) rfl ?_
        refine v_goto X 45 (gD D_X12_fitsInto_0 72 rfl) (by decide) ?_
        exact v_sub [3] [3, 4, 5, 1, 0] rfl rfl (hK45 a0 x1 x2 0 (x4 + 1) σ hw)
      · replace hw := hw.2 c74
        refine v_iconst X 1 (gD D_X12_fitsInto_0 67 rfl) (by decide) ?_
        refine v_goto X 118 (gD D_X12_fitsInto_0 68 rfl) (by decide) ?_
        refine v_istore_n X [(3, .int 1), (5, .int xs0), (0, va_rf (some a0)), (1, .int x1), (2, .int x2), (4, .int x4)] (gD D_X12_fitsInto_0 70 rfl) rfl (by decide) rfl ?_
        refine v_iinc X (x4 + 1) 5 rfl [(4, .int (x4 + 1)), (3, .int 1), (5, .int xs0), (0, va_rf (some a0)), (1, .int x1), (2, .int x2)] (gD D_X12_fitsInto_0 71 rfl) rfl (by decide) rfl ?_
        refine v_goto X 45 (gD D_X12_fitsInto_0 72 rfl) (by decide) ?_
        exact v_sub [3] [3, 4, 5, 1, 0] rfl rfl (hK45 a0 x1 x2 1 (x4 + 1) σ hw)
set_option maxRecDepth 100000 in
set_option maxHeartbeats 4000000 in
theorem t_X12_fitsInto_77 {p : Program} {l : Launch} {e : Env} {s : State} {m : MethodId} {args : Array Value} {below : List Frame} {meth : Method} {c : Code} {G : GX} {σ0 : St} {mc ms : Nat} {Q : Int32 → St → Prop} (X : VC p l (rmD 0 mc ms) s m args meth c G 0 mc ms 6 RX12 cX12_fitsInto) (hr : meth.sig.returnType = (some .boolean)) (hin : meth.name = yX12_fitsInto.name) (htr : l.stackTraces = false) {K45 : Nat → Int32 → Int32 → Int32 → Int32 → St → Prop} (hK45 : ∀ (a0 : Nat) (x1 : Int32) (x2 : Int32) (x3 : Int32) (x4 : Int32) (σ : St), K45 a0 x1 x2 x3 x4 σ → V p l e (rmD 0 mc ms) s m args below meth c (MQ below (va_Qi Q (gB G 2 σ0) (GA G)) args s mc ms (GA G)) G 2 σ0 mc ms 6 σ 0 0 [(some a0, 13)] 45 [(0, va_rf (some a0)), (1, .int x1), (2, .int x2), (3, .int x3), (4, .int x4)] []) : ∀ (a0 : Nat) (x1 : Int32) (x2 : Int32) (x3 : Int32) (x4 : Int32) (σ : St), w_X12_fitsInto_77 Q K45 a0 x1 x2 x3 x4 σ → V p l e (rmD 0 mc ms) s m args below meth c (MQ below (va_Qi Q (gB G 2 σ0) (GA G)) args s mc ms (GA G)) G 2 σ0 mc ms 6 σ 0 0 [(some a0, 13)] 77 [(0, va_rf (some a0)), (1, .int x1), (2, .int x2), (3, .int x3), (4, .int x4)] [] := by
  intro a0 x1 x2 x3 x4 σ hw
  unfold w_X12_fitsInto_77 at hw
  refine v_iconst X 0 (gD D_X12_fitsInto_0 46 rfl) (by decide) ?_
  exact v_sub [0] [0, 1, 2, 3, 4] rfl rfl (t_X12_fitsInto_78 X hr hin htr hK45 a0 x1 x2 x3 x4 0 σ hw)
set_option maxRecDepth 100000 in
set_option maxHeartbeats 4000000 in
theorem t_X12_fitsInto_45 {p : Program} {l : Launch} {e : Env} {s : State} {m : MethodId} {args : Array Value} {below : List Frame} {meth : Method} {c : Code} {G : GX} {σ0 : St} {mc ms : Nat} {Q : Int32 → St → Prop} (X : VC p l (rmD 0 mc ms) s m args meth c G 0 mc ms 6 RX12 cX12_fitsInto) (hr : meth.sig.returnType = (some .boolean)) (hin : meth.name = yX12_fitsInto.name) (htr : l.stackTraces = false) : ∀ (f : Nat) (a0 : Nat) (x1 : Int32) (x2 : Int32) (x3 : Int32) (x4 : Int32) (σ : St), w_X12_fitsInto_45 Q  f a0 x1 x2 x3 x4 σ → V p l e (rmD 0 mc ms) s m args below meth c (MQ below (va_Qi Q (gB G 2 σ0) (GA G)) args s mc ms (GA G)) G 2 σ0 mc ms 6 σ 0 0 [(some a0, 13)] 45 [(0, va_rf (some a0)), (1, .int x1), (2, .int x2), (3, .int x3), (4, .int x4)] [] := by
  intro f
  induction f with
  | zero => intro a0 x1 x2 x3 x4 σ hw; exact hw.elim
  | succ f ih =>
    intro a0 x1 x2 x3 x4 σ hw
    unfold w_X12_fitsInto_45 at hw
    refine v_iload X 4 rfl (gD D_X12_fitsInto_0 28 rfl) ?_
    refine v_bipush X 6 (gD D_X12_fitsInto_0 29 rfl) (by decide) ?_
    refine v_icmp_ge X 125 (gD D_X12_fitsInto_0 30 rfl) (by decide) (fun c58 => ?_) (fun c58 => ?_)
    · replace hw := hw.1 c58
      refine v_iload_n X 3 rfl (gD D_X12_fitsInto_0 73 rfl) rfl ?_
      exact v_zret X hr hw.1 hw.2 (gD D_X12_fitsInto_0 74 rfl)
    · replace hw := hw.2 c58
      refine v_aload_n X 0 rfl (gD D_X12_fitsInto_0 31 rfl) rfl ?_
      refine v_getR X RX12 TX12 65 13 12 (by decide) rfl gin12 64 1264 RX12 (Or.inl rfl) 0 21 rfl rfl rfl (by decide) lk_fRX12_176 (gD D_X12_fitsInto_0 32 rfl) (fun o59 eo59 => ?_)
      replace hw := hw o59 eo59
      refine v_iload_n X 1 rfl (gD D_X12_fitsInto_0 33 rfl) rfl ?_
      obtain ⟨a60, rfl, hw⟩ := hw
      obtain ⟨h61, hw⟩ := hw
      refine v_iald X 0 rfl (by decide) h61 (gD D_X12_fitsInto_0 34 rfl) ?_
      refine v_iload X 4 rfl (gD D_X12_fitsInto_0 35 rfl) ?_
      refine v_ishr X (gD D_X12_fitsInto_0 36 rfl) ?_
      refine v_iconst X 1 (gD D_X12_fitsInto_0 37 rfl) (by decide) ?_
      refine v_iand X (gD D_X12_fitsInto_0 38 rfl) ?_
      refine v_iconst X 1 (gD D_X12_fitsInto_0 39 rfl) (by decide) ?_
      refine v_icmp_ne X 77 (gD D_X12_fitsInto_0 40 rfl) (by decide) (fun c62 => ?_) (fun c62 => ?_)
      · replace hw := hw.1 c62
        exact v_sub [1] [0, 1, 2, 3, 4] rfl rfl (t_X12_fitsInto_77 X hr hin htr ih a0 x1 x2 x3 x4 σ hw)
      · replace hw := hw.2 c62
        refine v_iload X 4 rfl (gD D_X12_fitsInto_0 41 rfl) ?_
        refine v_iload_n X 2 rfl (gD D_X12_fitsInto_0 42 rfl) rfl ?_
        refine v_icmp_eq X 77 (gD D_X12_fitsInto_0 43 rfl) (by decide) (fun c75 => ?_) (fun c75 => ?_)
        · replace hw := hw.1 c75
          exact v_sub [1] [0, 1, 2, 3, 4] rfl rfl (t_X12_fitsInto_77 X hr hin htr ih a0 x1 x2 x3 x4 σ hw)
        · replace hw := hw.2 c75
          refine v_iconst X 1 (gD D_X12_fitsInto_0 44 rfl) (by decide) ?_
          refine v_goto X 78 (gD D_X12_fitsInto_0 45 rfl) (by decide) ?_
          exact v_sub [1] [0, 1, 2, 3, 4] rfl rfl (t_X12_fitsInto_78 X hr hin htr ih a0 x1 x2 x3 x4 1 σ hw)
set_option maxRecDepth 100000 in
set_option maxHeartbeats 4000000 in
theorem c_X12_fitsInto {l : Launch} {G : GX} (htr : l.stackTraces = false) {σ : St} {a0 : Nat} {x1 : Int32} {x2 : Int32} {Q : Int32 → St → Prop} (ht : tvOk σ [(some a0, 13)]) (hw : w_X12_fitsInto a0 x1 x2 σ Q) : MI l G 2 σ yX12_fitsInto cX12_fitsInto 6 (some .boolean) 0 0 0 [va_rf (some a0), .int x1, .int x2] Q := by
  unfold w_X12_fitsInto at hw
  refine m_start RX12 (by decide) htr ht (Nat.le_of_ble_eq_true rfl) rfl (lv := [(0, va_rf (some a0)), (1, .int x1), (2, .int x2)]) (d := 2) (fun p e s m args below meth c X hr hin => ?_)
  refine v_aload_n X 0 rfl (gD D_X12_fitsInto_0 0 rfl) rfl ?_
  refine v_getR X RX12 TX12 65 13 12 (by decide) rfl gin12 61 1261 RX12 (Or.inl rfl) 0 21 rfl rfl rfl (by decide) lk_fRX12_167 (gD D_X12_fitsInto_0 1 rfl) (fun o51 eo51 => ?_)
  replace hw := hw o51 eo51
  refine v_iload_n X 1 rfl (gD D_X12_fitsInto_0 2 rfl) rfl ?_
  obtain ⟨a52, rfl, hw⟩ := hw
  obtain ⟨h53, hw⟩ := hw
  refine v_iald X 0 rfl (by decide) h53 (gD D_X12_fitsInto_0 3 rfl) ?_
  refine v_aload_n X 0 rfl (gD D_X12_fitsInto_0 4 rfl) rfl ?_
  refine v_getR X RX12 TX12 65 13 12 (by decide) rfl gin12 10 1210 RX12 (Or.inl rfl) 1 21 rfl rfl rfl (by decide) lk_fRX12_28 (gD D_X12_fitsInto_0 5 rfl) (fun o54 eo54 => ?_)
  replace hw := hw o54 eo54
  refine v_iload_n X 2 rfl (gD D_X12_fitsInto_0 6 rfl) rfl ?_
  obtain ⟨a55, rfl, hw⟩ := hw
  obtain ⟨h56, hw⟩ := hw
  refine v_iald X 0 rfl (by decide) h56 (gD D_X12_fitsInto_0 7 rfl) ?_
  refine v_iadd X (gD D_X12_fitsInto_0 8 rfl) ?_
  refine v_bipush X 30 (gD D_X12_fitsInto_0 9 rfl) (by decide) ?_
  refine v_icmp_gt X 40 (gD D_X12_fitsInto_0 10 rfl) (by decide) (fun c57 => ?_) (fun c57 => ?_)
  · replace hw := hw.1 c57
    refine v_iconst X 0 (gD D_X12_fitsInto_0 24 rfl) (by decide) ?_
    refine v_istore_n X [(3, .int 0), (0, va_rf (some a0)), (1, .int x1), (2, .int x2)] (gD D_X12_fitsInto_0 25 rfl) rfl (by decide) rfl ?_
    refine v_iconst X 0 (gD D_X12_fitsInto_0 26 rfl) (by decide) ?_
    refine v_istore X [(4, .int 0), (3, .int 0), (0, va_rf (some a0)), (1, .int x1), (2, .int x2)] (gD D_X12_fitsInto_0 27 rfl) (by decide) rfl ?_
    obtain ⟨f76, hw⟩ := hw
    exact v_sub [2] [2, 3, 4, 1, 0] rfl rfl (t_X12_fitsInto_45 X hr hin htr  f76 a0 x1 x2 0 0 σ hw)
  · replace hw := hw.2 c57
    refine v_aload_n X 0 rfl (gD D_X12_fitsInto_0 11 rfl) rfl ?_
    refine v_getR X RX12 TX12 65 13 12 (by decide) rfl gin12 62 1262 RX12 (Or.inl rfl) 2 21 rfl rfl rfl (by decide) lk_fRX12_170 (gD D_X12_fitsInto_0 12 rfl) (fun o77 eo77 => ?_)
    replace hw := hw o77 eo77
    refine v_iload_n X 1 rfl (gD D_X12_fitsInto_0 13 rfl) rfl ?_
    obtain ⟨a78, rfl, hw⟩ := hw
    obtain ⟨h79, hw⟩ := hw
    refine v_iald X 0 rfl (by decide) h79 (gD D_X12_fitsInto_0 14 rfl) ?_
    refine v_aload_n X 0 rfl (gD D_X12_fitsInto_0 15 rfl) rfl ?_
    refine v_getR X RX12 TX12 65 13 12 (by decide) rfl gin12 11 1211 RX12 (Or.inl rfl) 3 21 rfl rfl rfl (by decide) lk_fRX12_31 (gD D_X12_fitsInto_0 16 rfl) (fun o80 eo80 => ?_)
    replace hw := hw o80 eo80
    refine v_iload_n X 2 rfl (gD D_X12_fitsInto_0 17 rfl) rfl ?_
    obtain ⟨a81, rfl, hw⟩ := hw
    obtain ⟨h82, hw⟩ := hw
    refine v_iald X 0 rfl (by decide) h82 (gD D_X12_fitsInto_0 18 rfl) ?_
    refine v_iadd X (gD D_X12_fitsInto_0 19 rfl) ?_
    refine v_bipush X 50 (gD D_X12_fitsInto_0 20 rfl) (by decide) ?_
    refine v_icmp_gt X 40 (gD D_X12_fitsInto_0 21 rfl) (by decide) (fun c83 => ?_) (fun c83 => ?_)
    · replace hw := hw.1 c83
      refine v_iconst X 0 (gD D_X12_fitsInto_0 24 rfl) (by decide) ?_
      refine v_istore_n X [(3, .int 0), (0, va_rf (some a0)), (1, .int x1), (2, .int x2)] (gD D_X12_fitsInto_0 25 rfl) rfl (by decide) rfl ?_
      refine v_iconst X 0 (gD D_X12_fitsInto_0 26 rfl) (by decide) ?_
      refine v_istore X [(4, .int 0), (3, .int 0), (0, va_rf (some a0)), (1, .int x1), (2, .int x2)] (gD D_X12_fitsInto_0 27 rfl) (by decide) rfl ?_
      obtain ⟨f84, hw⟩ := hw
      exact v_sub [4] [2, 3, 4, 1, 0] rfl rfl (t_X12_fitsInto_45 X hr hin htr  f84 a0 x1 x2 0 0 σ hw)
    · replace hw := hw.2 c83
      refine v_iconst X 1 (gD D_X12_fitsInto_0 22 rfl) (by decide) ?_
      refine v_goto X 41 (gD D_X12_fitsInto_0 23 rfl) (by decide) ?_
      refine v_istore_n X [(3, .int 1), (0, va_rf (some a0)), (1, .int x1), (2, .int x2)] (gD D_X12_fitsInto_0 25 rfl) rfl (by decide) rfl ?_
      refine v_iconst X 0 (gD D_X12_fitsInto_0 26 rfl) (by decide) ?_
      refine v_istore X [(4, .int 0), (3, .int 1), (0, va_rf (some a0)), (1, .int x1), (2, .int x2)] (gD D_X12_fitsInto_0 27 rfl) (by decide) rfl ?_
      obtain ⟨f85, hw⟩ := hw
      exact v_sub [4] [2, 3, 4, 1, 0] rfl rfl (t_X12_fitsInto_45 X hr hin htr  f85 a0 x1 x2 1 0 σ hw)
set_option maxRecDepth 100000 in
set_option maxHeartbeats 4000000 in
theorem c_X12_gives {l : Launch} {G : GX} (htr : l.stackTraces = false) {σ : St} {a0 : Nat} {x1 : Int32} {x2 : Int32} {Q : St → Prop} (ht : tvOk σ [(some a0, 13)]) (hw : w_X12_gives a0 x1 x2 σ Q) : MV l G 2 σ yX12_gives cX12_gives 3 0 0 0 [va_rf (some a0), .int x1, .int x2] Q := by
  unfold w_X12_gives at hw
  refine m_start RX12 (by decide) htr ht (Nat.le_of_ble_eq_true rfl) rfl (lv := [(0, va_rf (some a0)), (1, .int x1), (2, .int x2)]) (d := 2) (fun p e s m args below meth c X hr hin => ?_)
  refine v_aload_n X 0 rfl (gD D_X12_gives_0 0 rfl) rfl ?_
  refine v_getR X RX12 TX12 65 13 12 (by decide) rfl gin12 58 1258 RX12 (Or.inl rfl) 0 21 rfl rfl rfl (by decide) lk_fRX12_158 (gD D_X12_gives_0 1 rfl) (fun o51 eo51 => ?_)
  replace hw := hw o51 eo51
  refine v_bipush X 60 (gD D_X12_gives_0 2 rfl) (by decide) ?_
  refine v_iload_n X 1 rfl (gD D_X12_gives_0 3 rfl) rfl ?_
  refine v_imul X (gD D_X12_gives_0 4 rfl) ?_
  refine v_aload_n X 0 rfl (gD D_X12_gives_0 5 rfl) rfl ?_
  refine v_getR X RX12 TX12 65 13 12 (by decide) rfl gin12 59 1259 RX12 (Or.inl rfl) 1 21 rfl rfl rfl (by decide) lk_fRX12_161 (gD D_X12_gives_0 6 rfl) (fun o52 eo52 => ?_)
  replace hw := hw o52 eo52
  refine v_iload_n X 1 rfl (gD D_X12_gives_0 7 rfl) rfl ?_
  obtain ⟨a53, rfl, hw⟩ := hw
  obtain ⟨h54, hw⟩ := hw
  refine v_iald X 0 rfl (by decide) h54 (gD D_X12_gives_0 8 rfl) ?_
  refine v_iadd X (gD D_X12_gives_0 9 rfl) ?_
  refine v_iload_n X 2 rfl (gD D_X12_gives_0 10 rfl) rfl ?_
  obtain ⟨a55, rfl, hw⟩ := hw
  obtain ⟨h56, hw⟩ := hw
  refine v_iast X 1 rfl (by decide) (Or.inl rfl) h56 (gD D_X12_gives_0 11 rfl) (fun s57 es57 => ?_)
  replace hw := hw s57 es57
  refine v_aload_n X 0 rfl (gD D_X12_gives_0 12 rfl) rfl ?_
  refine v_getR X RX12 TX12 65 13 12 (by decide) rfl gin12 59 1259 RX12 (Or.inl rfl) 2 21 rfl rfl rfl (by decide) lk_fRX12_161 (gD D_X12_gives_0 13 rfl) (fun o58 eo58 => ?_)
  replace hw := hw o58 eo58
  refine v_iload_n X 1 rfl (gD D_X12_gives_0 14 rfl) rfl ?_
  refine v_dup2 X (gD D_X12_gives_0 15 rfl) rfl (rf_cat _) ?_
  obtain ⟨a59, rfl, hw⟩ := hw
  obtain ⟨h60, hw⟩ := hw
  refine v_iald X 0 rfl (by decide) h60 (gD D_X12_gives_0 16 rfl) ?_
  refine v_iconst X 1 (gD D_X12_gives_0 17 rfl) (by decide) ?_
  refine v_iadd X (gD D_X12_gives_0 18 rfl) ?_
  obtain ⟨h61, hw⟩ := hw
  refine v_iast X 0 rfl (by decide) (Or.inl rfl) h61 (gD D_X12_gives_0 19 rfl) (fun s62 es62 => ?_)
  replace hw := hw s62 es62
  refine v_aload_n X 0 rfl (gD D_X12_gives_0 20 rfl) rfl ?_
  refine v_getR X RX12 TX12 65 13 12 (by decide) rfl gin12 52 1252 RX12 (Or.inl rfl) 3 21 rfl rfl rfl (by decide) lk_fRX12_140 (gD D_X12_gives_0 21 rfl) (fun o63 eo63 => ?_)
  replace hw := hw o63 eo63
  refine v_iload_n X 2 rfl (gD D_X12_gives_0 22 rfl) rfl ?_
  refine v_iconst X 1 (gD D_X12_gives_0 23 rfl) (by decide) ?_
  obtain ⟨a64, rfl, hw⟩ := hw
  obtain ⟨h65, hw⟩ := hw
  refine v_iast X 0 rfl (by decide) (Or.inl rfl) h65 (gD D_X12_gives_0 24 rfl) (fun s66 es66 => ?_)
  replace hw := hw s66 es66
  refine v_aload_n X 0 rfl (gD D_X12_gives_0 25 rfl) rfl ?_
  refine v_getR X RX12 TX12 65 13 12 (by decide) rfl gin12 53 1253 RX12 (Or.inl rfl) 4 21 rfl rfl rfl (by decide) lk_fRX12_143 (gD D_X12_gives_0 26 rfl) (fun o67 eo67 => ?_)
  replace hw := hw o67 eo67
  refine v_iload_n X 2 rfl (gD D_X12_gives_0 27 rfl) rfl ?_
  refine v_iload_n X 1 rfl (gD D_X12_gives_0 28 rfl) rfl ?_
  obtain ⟨a68, rfl, hw⟩ := hw
  obtain ⟨h69, hw⟩ := hw
  refine v_iast X 0 rfl (by decide) (Or.inl rfl) h69 (gD D_X12_gives_0 29 rfl) (fun s70 es70 => ?_)
  replace hw := hw s70 es70
  exact v_vret X hr hw (gD D_X12_gives_0 30 rfl)
set_option maxRecDepth 100000 in
set_option maxHeartbeats 4000000 in
theorem c_X12_holds {l : Launch} {G : GX} (htr : l.stackTraces = false) {σ : St} {a0 : Nat} {x1 : Int32} {Q : Int32 → St → Prop} (ht : tvOk σ [(some a0, 13)]) (hw : w_X12_holds a0 x1 σ Q) : MI l G 2 σ yX12_holds cX12_holds 2 (some .boolean) 0 0 0 [va_rf (some a0), .int x1] Q := by
  unfold w_X12_holds at hw
  refine m_start RX12 (by decide) htr ht (Nat.le_of_ble_eq_true rfl) rfl (lv := [(0, va_rf (some a0)), (1, .int x1)]) (d := 2) (fun p e s m args below meth c X hr hin => ?_)
  refine v_aload_n X 0 rfl (gD D_X12_holds_0 0 rfl) rfl ?_
  refine v_iload_n X 1 rfl (gD D_X12_holds_0 1 rfl) rfl ?_
  refine v_putI X RX12 TX12 65 13 12 (by decide) rfl gin12 0 1200 tyX12 tyX12_ok nmX12 RX12 (Or.inl rfl) 0 rfl .int (int_fit _) rfl (by decide) (Or.inl rfl) lk_fRX12_179 rfl rfl (gD D_X12_holds_0 2 rfl) (fun s51 es51 => ?_)
  replace hw := hw s51 es51
  refine v_iload_n X 1 rfl (gD D_X12_holds_0 3 rfl) rfl ?_
  refine v_if_ne X 13 (gD D_X12_holds_0 4 rfl) (by decide) (fun c52 => ?_) (fun c52 => ?_)
  · replace hw := hw.1 c52
    refine v_iconst X 0 (gD D_X12_holds_0 7 rfl) (by decide) ?_
    exact v_zret X hr (by decide) hw (gD D_X12_holds_0 8 rfl)
  · replace hw := hw.2 c52
    refine v_iconst X 1 (gD D_X12_holds_0 5 rfl) (by decide) ?_
    refine v_goto X 14 (gD D_X12_holds_0 6 rfl) (by decide) ?_
    exact v_zret X hr (by decide) hw (gD D_X12_holds_0 8 rfl)
set_option maxRecDepth 100000 in
set_option maxHeartbeats 4000000 in
theorem t_X12_init_550 {p : Program} {l : Launch} {e : Env} {s : State} {m : MethodId} {args : Array Value} {below : List Frame} {meth : Method} {c : Code} {G : GX} {σ0 : St} {mc ms : Nat} {Q : St → Prop} (X : VC p l (rmD 0 mc ms) s m args meth c G 0 mc ms 2 RX12 cX12_init) (hr : meth.sig.returnType = none) (hin : meth.name = yX12_init.name) (htr : l.stackTraces = false) : ∀ (f : Nat) (a0 : Nat) (x1 : Int32) (σ : St) (k n : Nat), w_X12_init_550 Q  f a0 x1 σ k n → V p l e (rmD 0 mc ms) s m args below meth c (MQ below (va_Qv Q (gB G 2 σ0) (GA G)) args s mc ms (GA G)) G 2 σ0 mc ms 2 σ k n [(some a0, 13)] 550 [(0, va_rf (some a0)), (1, .int x1)] [] := by
  intro f
  induction f with
  | zero => intro a0 x1 σ k n hw; exact hw.elim
  | succ f ih =>
    intro a0 x1 σ k n hw
    unfold w_X12_init_550 at hw
    refine v_iload_n X 1 rfl (gD D_X12_init_2 79 rfl) rfl ?_
    refine v_iconst X 3 (gD D_X12_init_2 80 rfl) (by decide) ?_
    refine v_icmp_ge X 568 (gD D_X12_init_2 81 rfl) (by decide) (fun c558 => ?_) (fun c558 => ?_)
    · replace hw := hw.1 c558
      exact v_vret X hr hw (gD D_X12_init_2 89 rfl)
    · replace hw := hw.2 c558
      refine v_aload_n X 0 rfl (gD D_X12_init_2 82 rfl) rfl ?_
      refine v_getR X RX12 TX12 65 13 12 (by decide) rfl gin12 55 1255 RX12 (Or.inl rfl) 0 21 rfl rfl rfl (by decide) lk_fRX12_149 (gD D_X12_init_2 83 rfl) (fun o559 eo559 => ?_)
      replace hw := hw o559 eo559
      refine v_iload_n X 1 rfl (gD D_X12_init_2 84 rfl) rfl ?_
      refine v_iconst X (-1) (gD D_X12_init_2 85 rfl) (by decide) ?_
      obtain ⟨a560, rfl, hw⟩ := hw
      obtain ⟨h561, hw⟩ := hw
      refine v_iast X 0 rfl (by decide) (Or.inl rfl) h561 (gD D_X12_init_2 86 rfl) (fun s562 es562 => ?_)
      replace hw := hw s562 es562
      refine v_iinc X (x1 + 1) 1 rfl [(1, .int (x1 + 1)), (0, va_rf (some a0))] (gD D_X12_init_2 87 rfl) rfl (by decide) rfl ?_
      refine v_goto X 550 (gD D_X12_init_2 88 rfl) (by decide) ?_
      exact v_sub [1] [1, 0] rfl rfl (ih a0 (x1 + 1) s562 k n hw)
set_option maxRecDepth 100000 in
set_option maxHeartbeats 4000000 in
theorem t_X12_init_528 {p : Program} {l : Launch} {e : Env} {s : State} {m : MethodId} {args : Array Value} {below : List Frame} {meth : Method} {c : Code} {G : GX} {σ0 : St} {mc ms : Nat} {Q : St → Prop} (X : VC p l (rmD 0 mc ms) s m args meth c G 0 mc ms 2 RX12 cX12_init) (hr : meth.sig.returnType = none) (hin : meth.name = yX12_init.name) (htr : l.stackTraces = false) : ∀ (f : Nat) (a0 : Nat) (x1 : Int32) (σ : St) (k n : Nat), w_X12_init_528 Q  f a0 x1 σ k n → V p l e (rmD 0 mc ms) s m args below meth c (MQ below (va_Qv Q (gB G 2 σ0) (GA G)) args s mc ms (GA G)) G 2 σ0 mc ms 2 σ k n [(some a0, 13)] 528 [(0, va_rf (some a0)), (1, .int x1)] [] := by
  intro f
  induction f with
  | zero => intro a0 x1 σ k n hw; exact hw.elim
  | succ f ih =>
    intro a0 x1 σ k n hw
    unfold w_X12_init_528 at hw
    refine v_iload_n X 1 rfl (gD D_X12_init_2 67 rfl) rfl ?_
    refine v_sipush X 216 (gD D_X12_init_2 68 rfl) (by decide) ?_
    refine v_icmp_ge X 548 (gD D_X12_init_2 69 rfl) (by decide) (fun c557 => ?_) (fun c557 => ?_)
    · replace hw := hw.1 c557
      refine v_iconst X 0 (gD D_X12_init_2 77 rfl) (by decide) ?_
      refine v_istore_n X [(1, .int 0), (0, va_rf (some a0))] (gD D_X12_init_2 78 rfl) rfl (by decide) rfl ?_
      obtain ⟨f563, hw⟩ := hw
      exact v_sub [0] [1, 0] rfl rfl (t_X12_init_550 X hr hin htr  f563 a0 0 σ k n hw)
    · replace hw := hw.2 c557
      refine v_aload_n X 0 rfl (gD D_X12_init_2 70 rfl) rfl ?_
      refine v_getR X RX12 TX12 65 13 12 (by decide) rfl gin12 21 1221 RX12 (Or.inl rfl) 0 21 rfl rfl rfl (by decide) lk_fRX12_59 (gD D_X12_init_2 71 rfl) (fun o564 eo564 => ?_)
      replace hw := hw o564 eo564
      refine v_iload_n X 1 rfl (gD D_X12_init_2 72 rfl) rfl ?_
      refine v_iconst X (-1) (gD D_X12_init_2 73 rfl) (by decide) ?_
      obtain ⟨a565, rfl, hw⟩ := hw
      obtain ⟨h566, hw⟩ := hw
      refine v_iast X 0 rfl (by decide) (Or.inl rfl) h566 (gD D_X12_init_2 74 rfl) (fun s567 es567 => ?_)
      replace hw := hw s567 es567
      refine v_iinc X (x1 + 1) 1 rfl [(1, .int (x1 + 1)), (0, va_rf (some a0))] (gD D_X12_init_2 75 rfl) rfl (by decide) rfl ?_
      refine v_goto X 528 (gD D_X12_init_2 76 rfl) (by decide) ?_
      exact v_sub [1] [1, 0] rfl rfl (ih a0 (x1 + 1) s567 k n hw)
set_option maxRecDepth 100000 in
set_option maxHeartbeats 4000000 in
theorem t_X12_init_493 {p : Program} {l : Launch} {e : Env} {s : State} {m : MethodId} {args : Array Value} {below : List Frame} {meth : Method} {c : Code} {G : GX} {σ0 : St} {mc ms : Nat} {Q : St → Prop} (X : VC p l (rmD 0 mc ms) s m args meth c G 0 mc ms 2 RX12 cX12_init) (hr : meth.sig.returnType = none) (hin : meth.name = yX12_init.name) (htr : l.stackTraces = false) : ∀ (f : Nat) (a0 : Nat) (x1 : Int32) (σ : St) (k n : Nat), w_X12_init_493 Q  f a0 x1 σ k n → V p l e (rmD 0 mc ms) s m args below meth c (MQ below (va_Qv Q (gB G 2 σ0) (GA G)) args s mc ms (GA G)) G 2 σ0 mc ms 2 σ k n [(some a0, 13)] 493 [(0, va_rf (some a0)), (1, .int x1)] [] := by
  intro f
  induction f with
  | zero => intro a0 x1 σ k n hw; exact hw.elim
  | succ f ih =>
    intro a0 x1 σ k n hw
    unfold w_X12_init_493 at hw
    refine v_iload_n X 1 rfl (gD D_X12_init_2 45 rfl) rfl ?_
    refine v_bipush X 6 (gD D_X12_init_2 46 rfl) (by decide) ?_
    refine v_icmp_ge X 526 (gD D_X12_init_2 47 rfl) (by decide) (fun c556 => ?_) (fun c556 => ?_)
    · replace hw := hw.1 c556
      refine v_iconst X 0 (gD D_X12_init_2 65 rfl) (by decide) ?_
      refine v_istore_n X [(1, .int 0), (0, va_rf (some a0))] (gD D_X12_init_2 66 rfl) rfl (by decide) rfl ?_
      obtain ⟨f568, hw⟩ := hw
      exact v_sub [0] [1, 0] rfl rfl (t_X12_init_528 X hr hin htr  f568 a0 0 σ k n hw)
    · replace hw := hw.2 c556
      refine v_aload_n X 0 rfl (gD D_X12_init_2 48 rfl) rfl ?_
      refine v_getR X RX12 TX12 65 13 12 (by decide) rfl gin12 10 1210 RX12 (Or.inl rfl) 0 21 rfl rfl rfl (by decide) lk_fRX12_28 (gD D_X12_init_2 49 rfl) (fun o569 eo569 => ?_)
      replace hw := hw o569 eo569
      refine v_iload_n X 1 rfl (gD D_X12_init_2 50 rfl) rfl ?_
      refine v_iconst X 1 (gD D_X12_init_2 51 rfl) (by decide) ?_
      obtain ⟨a570, rfl, hw⟩ := hw
      obtain ⟨h571, hw⟩ := hw
      refine v_iast X 0 rfl (by decide) (Or.inl rfl) h571 (gD D_X12_init_2 52 rfl) (fun s572 es572 => ?_)
      replace hw := hw s572 es572
      refine v_aload_n X 0 rfl (gD D_X12_init_2 53 rfl) rfl ?_
      refine v_getR X RX12 TX12 65 13 12 (by decide) rfl gin12 11 1211 RX12 (Or.inl rfl) 1 21 rfl rfl rfl (by decide) lk_fRX12_31 (gD D_X12_init_2 54 rfl) (fun o573 eo573 => ?_)
      replace hw := hw o573 eo573
      refine v_iload_n X 1 rfl (gD D_X12_init_2 55 rfl) rfl ?_
      refine v_iconst X 1 (gD D_X12_init_2 56 rfl) (by decide) ?_
      obtain ⟨a574, rfl, hw⟩ := hw
      obtain ⟨h575, hw⟩ := hw
      refine v_iast X 0 rfl (by decide) (Or.inl rfl) h575 (gD D_X12_init_2 57 rfl) (fun s576 es576 => ?_)
      replace hw := hw s576 es576
      refine v_aload_n X 0 rfl (gD D_X12_init_2 58 rfl) rfl ?_
      refine v_getR X RX12 TX12 65 13 12 (by decide) rfl gin12 13 1213 RX12 (Or.inl rfl) 2 21 rfl rfl rfl (by decide) lk_fRX12_37 (gD D_X12_init_2 59 rfl) (fun o577 eo577 => ?_)
      replace hw := hw o577 eo577
      refine v_iload_n X 1 rfl (gD D_X12_init_2 60 rfl) rfl ?_
      refine v_iconst X 1 (gD D_X12_init_2 61 rfl) (by decide) ?_
      obtain ⟨a578, rfl, hw⟩ := hw
      obtain ⟨h579, hw⟩ := hw
      refine v_iast X 0 rfl (by decide) (Or.inl rfl) h579 (gD D_X12_init_2 62 rfl) (fun s580 es580 => ?_)
      replace hw := hw s580 es580
      refine v_iinc X (x1 + 1) 1 rfl [(1, .int (x1 + 1)), (0, va_rf (some a0))] (gD D_X12_init_2 63 rfl) rfl (by decide) rfl ?_
      refine v_goto X 493 (gD D_X12_init_2 64 rfl) (by decide) ?_
      exact v_sub [3] [1, 0] rfl rfl (ih a0 (x1 + 1) s580 k n hw)
set_option maxRecDepth 100000 in
set_option maxHeartbeats 4000000 in
theorem t_X12_init_464 {p : Program} {l : Launch} {e : Env} {s : State} {m : MethodId} {args : Array Value} {below : List Frame} {meth : Method} {c : Code} {G : GX} {σ0 : St} {mc ms : Nat} {Q : St → Prop} (X : VC p l (rmD 0 mc ms) s m args meth c G 0 mc ms 2 RX12 cX12_init) (hr : meth.sig.returnType = none) (hin : meth.name = yX12_init.name) (htr : l.stackTraces = false) : ∀ (f : Nat) (a0 : Nat) (x1 : Int32) (σ : St) (k n : Nat), w_X12_init_464 Q  f a0 x1 σ k n → V p l e (rmD 0 mc ms) s m args below meth c (MQ below (va_Qv Q (gB G 2 σ0) (GA G)) args s mc ms (GA G)) G 2 σ0 mc ms 2 σ k n [(some a0, 13)] 464 [(0, va_rf (some a0)), (1, .int x1)] [] := by
  intro f
  induction f with
  | zero => intro a0 x1 σ k n hw; exact hw.elim
  | succ f ih =>
    intro a0 x1 σ k n hw
    unfold w_X12_init_464 at hw
    refine v_iload_n X 1 rfl (gD D_X12_init_2 28 rfl) rfl ?_
    refine v_bipush X 18 (gD D_X12_init_2 29 rfl) (by decide) ?_
    refine v_icmp_ge X 491 (gD D_X12_init_2 30 rfl) (by decide) (fun c555 => ?_) (fun c555 => ?_)
    · replace hw := hw.1 c555
      refine v_iconst X 0 (gD D_X12_init_2 43 rfl) (by decide) ?_
      refine v_istore_n X [(1, .int 0), (0, va_rf (some a0))] (gD D_X12_init_2 44 rfl) rfl (by decide) rfl ?_
      obtain ⟨f581, hw⟩ := hw
      exact v_sub [0] [1, 0] rfl rfl (t_X12_init_493 X hr hin htr  f581 a0 0 σ k n hw)
    · replace hw := hw.2 c555
      refine v_aload_n X 0 rfl (gD D_X12_init_2 31 rfl) rfl ?_
      refine v_getR X RX12 TX12 65 13 12 (by decide) rfl gin12 5 1205 RX12 (Or.inl rfl) 0 21 rfl rfl rfl (by decide) lk_fRX12_13 (gD D_X12_init_2 32 rfl) (fun o582 eo582 => ?_)
      replace hw := hw o582 eo582
      refine v_iload_n X 1 rfl (gD D_X12_init_2 33 rfl) rfl ?_
      refine v_bipush X 100 (gD D_X12_init_2 34 rfl) (by decide) ?_
      obtain ⟨a583, rfl, hw⟩ := hw
      obtain ⟨h584, hw⟩ := hw
      refine v_iast X 0 rfl (by decide) (Or.inl rfl) h584 (gD D_X12_init_2 35 rfl) (fun s585 es585 => ?_)
      replace hw := hw s585 es585
      refine v_aload_n X 0 rfl (gD D_X12_init_2 36 rfl) rfl ?_
      refine v_getR X RX12 TX12 65 13 12 (by decide) rfl gin12 6 1206 RX12 (Or.inl rfl) 1 21 rfl rfl rfl (by decide) lk_fRX12_16 (gD D_X12_init_2 37 rfl) (fun o586 eo586 => ?_)
      replace hw := hw o586 eo586
      refine v_iload_n X 1 rfl (gD D_X12_init_2 38 rfl) rfl ?_
      refine v_iconst X (-1) (gD D_X12_init_2 39 rfl) (by decide) ?_
      obtain ⟨a587, rfl, hw⟩ := hw
      obtain ⟨h588, hw⟩ := hw
      refine v_iast X 0 rfl (by decide) (Or.inl rfl) h588 (gD D_X12_init_2 40 rfl) (fun s589 es589 => ?_)
      replace hw := hw s589 es589
      refine v_iinc X (x1 + 1) 1 rfl [(1, .int (x1 + 1)), (0, va_rf (some a0))] (gD D_X12_init_2 41 rfl) rfl (by decide) rfl ?_
      refine v_goto X 464 (gD D_X12_init_2 42 rfl) (by decide) ?_
      exact v_sub [2] [1, 0] rfl rfl (ih a0 (x1 + 1) s589 k n hw)
set_option maxRecDepth 100000 in
set_option maxHeartbeats 4000000 in
theorem c_X12_init {l : Launch} {G : GX} (htr : l.stackTraces = false) {k n : Nat} {σ : St} {a0 : Nat} {Q : St → Prop} (ht : tvOk σ [(some a0, 13)]) (hw : w_X12_init k n a0 σ Q) : MV l G 2 σ yX12_init cX12_init 2 0 k n [va_rf (some a0)] Q := by
  unfold w_X12_init at hw
  refine m_start RX12 (by decide) htr ht (Nat.le_of_ble_eq_true rfl) rfl (lv := [(0, va_rf (some a0))]) (d := 2) (fun p e s m args below meth c X hr hin => ?_)
  refine v_aload_n X 0 rfl (gD D_X12_init_0 0 rfl) rfl ?_
  refine v_objInit X lk_mRX12_1 lk_i_objinit lk_c_objinit (by decide) (gD D_X12_init_0 1 rfl) ?_
  refine v_aload_n X 0 rfl (gD D_X12_init_0 2 rfl) rfl ?_
  refine v_bipush X 18 (gD D_X12_init_0 3 rfl) (by decide) ?_
  obtain ⟨h51, h52, hw⟩ := hw
  obtain ⟨k53, n54, h55, h56, hw⟩ := hw
  refine v_newI X 21 (by decide) lk_acint h51 h52 k53 n54 h55 h56 (gD D_X12_init_0 4 rfl) (fun a57 s58 ha57 es58 => ?_)
  replace hw := hw a57 s58 ha57 es58
  refine v_putRF X RX12 TX12 65 13 12 (by decide) rfl gin12 4 1204 tyX12 tyX12_ok nmX12 RX12 (Or.inl rfl) 1 rfl (fun b hb => ⟨0, by rw [← hb]; rfl⟩) rfl (by decide) (Or.inl rfl) lk_fRX12_7 rfl hin rfl rfl rfl (gD D_X12_init_0 5 rfl) (fun s59 es59 => ?_)
  replace hw := hw s59 es59
  refine v_aload_n X 0 rfl (gD D_X12_init_0 6 rfl) rfl ?_
  refine v_bipush X 18 (gD D_X12_init_0 7 rfl) (by decide) ?_
  obtain ⟨h60, h61, hw⟩ := hw
  obtain ⟨k62, n63, h64, h65, hw⟩ := hw
  refine v_newI X 21 (by decide) lk_acint h60 h61 k62 n63 h64 h65 (gD D_X12_init_0 8 rfl) (fun a66 s67 ha66 es67 => ?_)
  replace hw := hw a66 s67 ha66 es67
  refine v_putRF X RX12 TX12 65 13 12 (by decide) rfl gin12 5 1205 tyX12 tyX12_ok nmX12 RX12 (Or.inl rfl) 2 rfl (fun b hb => ⟨0, by rw [← hb]; rfl⟩) rfl (by decide) (Or.inl rfl) lk_fRX12_13 rfl hin rfl rfl rfl (gD D_X12_init_0 9 rfl) (fun s68 es68 => ?_)
  replace hw := hw s68 es68
  refine v_aload_n X 0 rfl (gD D_X12_init_0 10 rfl) rfl ?_
  refine v_bipush X 18 (gD D_X12_init_0 11 rfl) (by decide) ?_
  obtain ⟨h69, h70, hw⟩ := hw
  obtain ⟨k71, n72, h73, h74, hw⟩ := hw
  refine v_newI X 21 (by decide) lk_acint h69 h70 k71 n72 h73 h74 (gD D_X12_init_0 12 rfl) (fun a75 s76 ha75 es76 => ?_)
  replace hw := hw a75 s76 ha75 es76
  refine v_putRF X RX12 TX12 65 13 12 (by decide) rfl gin12 6 1206 tyX12 tyX12_ok nmX12 RX12 (Or.inl rfl) 3 rfl (fun b hb => ⟨0, by rw [← hb]; rfl⟩) rfl (by decide) (Or.inl rfl) lk_fRX12_16 rfl hin rfl rfl rfl (gD D_X12_init_0 13 rfl) (fun s77 es77 => ?_)
  replace hw := hw s77 es77
  refine v_aload_n X 0 rfl (gD D_X12_init_0 14 rfl) rfl ?_
  refine v_bipush X 18 (gD D_X12_init_0 15 rfl) (by decide) ?_
  obtain ⟨h78, h79, hw⟩ := hw
  obtain ⟨k80, n81, h82, h83, hw⟩ := hw
  refine v_newI X 21 (by decide) lk_acint h78 h79 k80 n81 h82 h83 (gD D_X12_init_0 16 rfl) (fun a84 s85 ha84 es85 => ?_)
  replace hw := hw a84 s85 ha84 es85
  refine v_putRF X RX12 TX12 65 13 12 (by decide) rfl gin12 7 1207 tyX12 tyX12_ok nmX12 RX12 (Or.inl rfl) 4 rfl (fun b hb => ⟨0, by rw [← hb]; rfl⟩) rfl (by decide) (Or.inl rfl) lk_fRX12_19 rfl hin rfl rfl rfl (gD D_X12_init_0 17 rfl) (fun s86 es86 => ?_)
  replace hw := hw s86 es86
  refine v_aload_n X 0 rfl (gD D_X12_init_0 18 rfl) rfl ?_
  refine v_bipush X 18 (gD D_X12_init_0 19 rfl) (by decide) ?_
  obtain ⟨h87, h88, hw⟩ := hw
  obtain ⟨k89, n90, h91, h92, hw⟩ := hw
  refine v_newI X 21 (by decide) lk_acint h87 h88 k89 n90 h91 h92 (gD D_X12_init_0 20 rfl) (fun a93 s94 ha93 es94 => ?_)
  replace hw := hw a93 s94 ha93 es94
  refine v_putRF X RX12 TX12 65 13 12 (by decide) rfl gin12 8 1208 tyX12 tyX12_ok nmX12 RX12 (Or.inl rfl) 5 rfl (fun b hb => ⟨0, by rw [← hb]; rfl⟩) rfl (by decide) (Or.inl rfl) lk_fRX12_22 rfl hin rfl rfl rfl (gD D_X12_init_0 21 rfl) (fun s95 es95 => ?_)
  replace hw := hw s95 es95
  refine v_aload_n X 0 rfl (gD D_X12_init_0 22 rfl) rfl ?_
  refine v_bipush X 6 (gD D_X12_init_0 23 rfl) (by decide) ?_
  obtain ⟨h96, h97, hw⟩ := hw
  obtain ⟨k98, n99, h100, h101, hw⟩ := hw
  refine v_newI X 21 (by decide) lk_acint h96 h97 k98 n99 h100 h101 (gD D_X12_init_0 24 rfl) (fun a102 s103 ha102 es103 => ?_)
  replace hw := hw a102 s103 ha102 es103
  refine v_putRF X RX12 TX12 65 13 12 (by decide) rfl gin12 9 1209 tyX12 tyX12_ok nmX12 RX12 (Or.inl rfl) 6 rfl (fun b hb => ⟨0, by rw [← hb]; rfl⟩) rfl (by decide) (Or.inl rfl) lk_fRX12_25 rfl hin rfl rfl rfl (gD D_X12_init_0 25 rfl) (fun s104 es104 => ?_)
  replace hw := hw s104 es104
  refine v_aload_n X 0 rfl (gD D_X12_init_0 26 rfl) rfl ?_
  refine v_bipush X 6 (gD D_X12_init_0 27 rfl) (by decide) ?_
  obtain ⟨h105, h106, hw⟩ := hw
  obtain ⟨k107, n108, h109, h110, hw⟩ := hw
  refine v_newI X 21 (by decide) lk_acint h105 h106 k107 n108 h109 h110 (gD D_X12_init_0 28 rfl) (fun a111 s112 ha111 es112 => ?_)
  replace hw := hw a111 s112 ha111 es112
  refine v_putRF X RX12 TX12 65 13 12 (by decide) rfl gin12 10 1210 tyX12 tyX12_ok nmX12 RX12 (Or.inl rfl) 7 rfl (fun b hb => ⟨0, by rw [← hb]; rfl⟩) rfl (by decide) (Or.inl rfl) lk_fRX12_28 rfl hin rfl rfl rfl (gD D_X12_init_0 29 rfl) (fun s113 es113 => ?_)
  replace hw := hw s113 es113
  refine v_aload_n X 0 rfl (gD D_X12_init_0 30 rfl) rfl ?_
  refine v_bipush X 6 (gD D_X12_init_0 31 rfl) (by decide) ?_
  obtain ⟨h114, h115, hw⟩ := hw
  obtain ⟨k116, n117, h118, h119, hw⟩ := hw
  refine v_newI X 21 (by decide) lk_acint h114 h115 k116 n117 h118 h119 (gD D_X12_init_0 32 rfl) (fun a120 s121 ha120 es121 => ?_)
  replace hw := hw a120 s121 ha120 es121
  refine v_putRF X RX12 TX12 65 13 12 (by decide) rfl gin12 11 1211 tyX12 tyX12_ok nmX12 RX12 (Or.inl rfl) 8 rfl (fun b hb => ⟨0, by rw [← hb]; rfl⟩) rfl (by decide) (Or.inl rfl) lk_fRX12_31 rfl hin rfl rfl rfl (gD D_X12_init_0 33 rfl) (fun s122 es122 => ?_)
  replace hw := hw s122 es122
  refine v_aload_n X 0 rfl (gD D_X12_init_0 34 rfl) rfl ?_
  refine v_bipush X 6 (gD D_X12_init_0 35 rfl) (by decide) ?_
  obtain ⟨h123, h124, hw⟩ := hw
  obtain ⟨k125, n126, h127, h128, hw⟩ := hw
  refine v_newI X 21 (by decide) lk_acint h123 h124 k125 n126 h127 h128 (gD D_X12_init_0 36 rfl) (fun a129 s130 ha129 es130 => ?_)
  replace hw := hw a129 s130 ha129 es130
  refine v_putRF X RX12 TX12 65 13 12 (by decide) rfl gin12 12 1212 tyX12 tyX12_ok nmX12 RX12 (Or.inl rfl) 9 rfl (fun b hb => ⟨0, by rw [← hb]; rfl⟩) rfl (by decide) (Or.inl rfl) lk_fRX12_34 rfl hin rfl rfl rfl (gD D_X12_init_0 37 rfl) (fun s131 es131 => ?_)
  replace hw := hw s131 es131
  refine v_aload_n X 0 rfl (gD D_X12_init_0 38 rfl) rfl ?_
  refine v_bipush X 6 (gD D_X12_init_0 39 rfl) (by decide) ?_
  obtain ⟨h132, h133, hw⟩ := hw
  obtain ⟨k134, n135, h136, h137, hw⟩ := hw
  refine v_newI X 21 (by decide) lk_acint h132 h133 k134 n135 h136 h137 (gD D_X12_init_0 40 rfl) (fun a138 s139 ha138 es139 => ?_)
  replace hw := hw a138 s139 ha138 es139
  refine v_putRF X RX12 TX12 65 13 12 (by decide) rfl gin12 13 1213 tyX12 tyX12_ok nmX12 RX12 (Or.inl rfl) 10 rfl (fun b hb => ⟨0, by rw [← hb]; rfl⟩) rfl (by decide) (Or.inl rfl) lk_fRX12_37 rfl hin rfl rfl rfl (gD D_X12_init_0 41 rfl) (fun s140 es140 => ?_)
  replace hw := hw s140 es140
  refine v_aload_n X 0 rfl (gD D_X12_init_0 42 rfl) rfl ?_
  refine v_bipush X 16 (gD D_X12_init_0 43 rfl) (by decide) ?_
  obtain ⟨h141, h142, hw⟩ := hw
  obtain ⟨k143, n144, h145, h146, hw⟩ := hw
  refine v_newZ X lk_acboolean h141 h142 k143 n144 h145 h146 (gD D_X12_init_0 44 rfl) (fun a147 s148 ha147 es148 => ?_)
  replace hw := hw a147 s148 ha147 es148
  refine v_putRF X RX12 TX12 65 13 12 (by decide) rfl gin12 14 1214 tyX12 tyX12_ok nmX12 RX12 (Or.inl rfl) 11 rfl (fun b hb => ⟨0, by rw [← hb]; rfl⟩) rfl (by decide) (Or.inl rfl) lk_fRX12_40 rfl hin rfl rfl rfl (gD D_X12_init_0 45 rfl) (fun s149 es149 => ?_)
  replace hw := hw s149 es149
  refine v_aload_n X 0 rfl (gD D_X12_init_0 46 rfl) rfl ?_
  refine v_bipush X 12 (gD D_X12_init_0 47 rfl) (by decide) ?_
  obtain ⟨h150, h151, hw⟩ := hw
  obtain ⟨k152, n153, h154, h155, hw⟩ := hw
  refine v_newI X 21 (by decide) lk_acint h150 h151 k152 n153 h154 h155 (gD D_X12_init_0 48 rfl) (fun a156 s157 ha156 es157 => ?_)
  replace hw := hw a156 s157 ha156 es157
  refine v_putRF X RX12 TX12 65 13 12 (by decide) rfl gin12 16 1216 tyX12 tyX12_ok nmX12 RX12 (Or.inl rfl) 12 rfl (fun b hb => ⟨0, by rw [← hb]; rfl⟩) rfl (by decide) (Or.inl rfl) lk_fRX12_44 rfl hin rfl rfl rfl (gD D_X12_init_0 49 rfl) (fun s158 es158 => ?_)
  replace hw := hw s158 es158
  refine v_aload_n X 0 rfl (gD D_X12_init_0 50 rfl) rfl ?_
  refine v_bipush X 12 (gD D_X12_init_0 51 rfl) (by decide) ?_
  obtain ⟨h159, h160, hw⟩ := hw
  obtain ⟨k161, n162, h163, h164, hw⟩ := hw
  refine v_newI X 21 (by decide) lk_acint h159 h160 k161 n162 h163 h164 (gD D_X12_init_0 52 rfl) (fun a165 s166 ha165 es166 => ?_)
  replace hw := hw a165 s166 ha165 es166
  refine v_putRF X RX12 TX12 65 13 12 (by decide) rfl gin12 17 1217 tyX12 tyX12_ok nmX12 RX12 (Or.inl rfl) 13 rfl (fun b hb => ⟨0, by rw [← hb]; rfl⟩) rfl (by decide) (Or.inl rfl) lk_fRX12_47 rfl hin rfl rfl rfl (gD D_X12_init_0 53 rfl) (fun s167 es167 => ?_)
  replace hw := hw s167 es167
  refine v_aload_n X 0 rfl (gD D_X12_init_0 54 rfl) rfl ?_
  refine v_bipush X 12 (gD D_X12_init_0 55 rfl) (by decide) ?_
  obtain ⟨h168, h169, hw⟩ := hw
  obtain ⟨k170, n171, h172, h173, hw⟩ := hw
  refine v_newZ X lk_acboolean h168 h169 k170 n171 h172 h173 (gD D_X12_init_0 56 rfl) (fun a174 s175 ha174 es175 => ?_)
  replace hw := hw a174 s175 ha174 es175
  refine v_putRF X RX12 TX12 65 13 12 (by decide) rfl gin12 18 1218 tyX12 tyX12_ok nmX12 RX12 (Or.inl rfl) 14 rfl (fun b hb => ⟨0, by rw [← hb]; rfl⟩) rfl (by decide) (Or.inl rfl) lk_fRX12_50 rfl hin rfl rfl rfl (gD D_X12_init_0 57 rfl) (fun s176 es176 => ?_)
  replace hw := hw s176 es176
  refine v_aload_n X 0 rfl (gD D_X12_init_0 58 rfl) rfl ?_
  refine v_sipush X 336 (gD D_X12_init_0 59 rfl) (by decide) ?_
  obtain ⟨h177, h178, hw⟩ := hw
  obtain ⟨k179, n180, h181, h182, hw⟩ := hw
  refine v_newI X 21 (by decide) lk_acint h177 h178 k179 n180 h181 h182 (gD D_X12_init_0 60 rfl) (fun a183 s184 ha183 es184 => ?_)
  replace hw := hw a183 s184 ha183 es184
  refine v_putRF X RX12 TX12 65 13 12 (by decide) rfl gin12 19 1219 tyX12 tyX12_ok nmX12 RX12 (Or.inl rfl) 15 rfl (fun b hb => ⟨0, by rw [← hb]; rfl⟩) rfl (by decide) (Or.inl rfl) lk_fRX12_53 rfl hin rfl rfl rfl (gD D_X12_init_0 61 rfl) (fun s185 es185 => ?_)
  replace hw := hw s185 es185
  refine v_aload_n X 0 rfl (gD D_X12_init_0 62 rfl) rfl ?_
  refine v_sipush X 216 (gD D_X12_init_0 63 rfl) (by decide) ?_
  obtain ⟨h186, h187, hw⟩ := hw
  obtain ⟨k188, n189, h190, h191, hw⟩ := hw
  refine v_newI X 21 (by decide) lk_acint h186 h187 k188 n189 h190 h191 (gD D_X12_init_0 64 rfl) (fun a192 s193 ha192 es193 => ?_)
  replace hw := hw a192 s193 ha192 es193
  refine v_putRF X RX12 TX12 65 13 12 (by decide) rfl gin12 20 1220 tyX12 tyX12_ok nmX12 RX12 (Or.inl rfl) 16 rfl (fun b hb => ⟨0, by rw [← hb]; rfl⟩) rfl (by decide) (Or.inl rfl) lk_fRX12_56 rfl hin rfl rfl rfl (gD D_X12_init_0 65 rfl) (fun s194 es194 => ?_)
  replace hw := hw s194 es194
  refine v_aload_n X 0 rfl (gD D_X12_init_0 66 rfl) rfl ?_
  refine v_sipush X 216 (gD D_X12_init_0 67 rfl) (by decide) ?_
  obtain ⟨h195, h196, hw⟩ := hw
  obtain ⟨k197, n198, h199, h200, hw⟩ := hw
  refine v_newI X 21 (by decide) lk_acint h195 h196 k197 n198 h199 h200 (gD D_X12_init_0 68 rfl) (fun a201 s202 ha201 es202 => ?_)
  replace hw := hw a201 s202 ha201 es202
  refine v_putRF X RX12 TX12 65 13 12 (by decide) rfl gin12 21 1221 tyX12 tyX12_ok nmX12 RX12 (Or.inl rfl) 17 rfl (fun b hb => ⟨0, by rw [← hb]; rfl⟩) rfl (by decide) (Or.inl rfl) lk_fRX12_59 rfl hin rfl rfl rfl (gD D_X12_init_0 69 rfl) (fun s203 es203 => ?_)
  replace hw := hw s203 es203
  refine v_aload_n X 0 rfl (gD D_X12_init_0 70 rfl) rfl ?_
  refine v_bipush X 8 (gD D_X12_init_0 71 rfl) (by decide) ?_
  obtain ⟨h204, h205, hw⟩ := hw
  obtain ⟨k206, n207, h208, h209, hw⟩ := hw
  refine v_newI X 21 (by decide) lk_acint h204 h205 k206 n207 h208 h209 (gD D_X12_init_0 72 rfl) (fun a210 s211 ha210 es211 => ?_)
  replace hw := hw a210 s211 ha210 es211
  refine v_putRF X RX12 TX12 65 13 12 (by decide) rfl gin12 23 1223 tyX12 tyX12_ok nmX12 RX12 (Or.inl rfl) 18 rfl (fun b hb => ⟨0, by rw [← hb]; rfl⟩) rfl (by decide) (Or.inl rfl) lk_fRX12_62 rfl hin rfl rfl rfl (gD D_X12_init_0 73 rfl) (fun s212 es212 => ?_)
  replace hw := hw s212 es212
  refine v_aload_n X 0 rfl (gD D_X12_init_0 74 rfl) rfl ?_
  refine v_bipush X 8 (gD D_X12_init_0 75 rfl) (by decide) ?_
  obtain ⟨h213, h214, hw⟩ := hw
  obtain ⟨k215, n216, h217, h218, hw⟩ := hw
  refine v_newI X 21 (by decide) lk_acint h213 h214 k215 n216 h217 h218 (gD D_X12_init_0 76 rfl) (fun a219 s220 ha219 es220 => ?_)
  replace hw := hw a219 s220 ha219 es220
  refine v_putRF X RX12 TX12 65 13 12 (by decide) rfl gin12 24 1224 tyX12 tyX12_ok nmX12 RX12 (Or.inl rfl) 19 rfl (fun b hb => ⟨0, by rw [← hb]; rfl⟩) rfl (by decide) (Or.inl rfl) lk_fRX12_65 rfl hin rfl rfl rfl (gD D_X12_init_0 77 rfl) (fun s221 es221 => ?_)
  replace hw := hw s221 es221
  refine v_aload_n X 0 rfl (gD D_X12_init_0 78 rfl) rfl ?_
  refine v_bipush X 8 (gD D_X12_init_0 79 rfl) (by decide) ?_
  obtain ⟨h222, h223, hw⟩ := hw
  obtain ⟨k224, n225, h226, h227, hw⟩ := hw
  refine v_newZ X lk_acboolean h222 h223 k224 n225 h226 h227 (gD D_X12_init_0 80 rfl) (fun a228 s229 ha228 es229 => ?_)
  replace hw := hw a228 s229 ha228 es229
  refine v_putRF X RX12 TX12 65 13 12 (by decide) rfl gin12 25 1225 tyX12 tyX12_ok nmX12 RX12 (Or.inl rfl) 20 rfl (fun b hb => ⟨0, by rw [← hb]; rfl⟩) rfl (by decide) (Or.inl rfl) lk_fRX12_68 rfl hin rfl rfl rfl (gD D_X12_init_0 81 rfl) (fun s230 es230 => ?_)
  replace hw := hw s230 es230
  refine v_aload_n X 0 rfl (gD D_X12_init_0 82 rfl) rfl ?_
  refine v_bipush X 96 (gD D_X12_init_0 83 rfl) (by decide) ?_
  obtain ⟨h231, h232, hw⟩ := hw
  obtain ⟨k233, n234, h235, h236, hw⟩ := hw
  refine v_newI X 21 (by decide) lk_acint h231 h232 k233 n234 h235 h236 (gD D_X12_init_0 84 rfl) (fun a237 s238 ha237 es238 => ?_)
  replace hw := hw a237 s238 ha237 es238
  refine v_putRF X RX12 TX12 65 13 12 (by decide) rfl gin12 26 1226 tyX12 tyX12_ok nmX12 RX12 (Or.inl rfl) 21 rfl (fun b hb => ⟨0, by rw [← hb]; rfl⟩) rfl (by decide) (Or.inl rfl) lk_fRX12_71 rfl hin rfl rfl rfl (gD D_X12_init_0 85 rfl) (fun s239 es239 => ?_)
  replace hw := hw s239 es239
  refine v_aload_n X 0 rfl (gD D_X12_init_0 86 rfl) rfl ?_
  refine v_bipush X 8 (gD D_X12_init_0 87 rfl) (by decide) ?_
  obtain ⟨h240, h241, hw⟩ := hw
  obtain ⟨k242, n243, h244, h245, hw⟩ := hw
  refine v_newI X 21 (by decide) lk_acint h240 h241 k242 n243 h244 h245 (gD D_X12_init_0 88 rfl) (fun a246 s247 ha246 es247 => ?_)
  replace hw := hw a246 s247 ha246 es247
  refine v_putRF X RX12 TX12 65 13 12 (by decide) rfl gin12 28 1228 tyX12 tyX12_ok nmX12 RX12 (Or.inl rfl) 22 rfl (fun b hb => ⟨0, by rw [← hb]; rfl⟩) rfl (by decide) (Or.inl rfl) lk_fRX12_74 rfl hin rfl rfl rfl (gD D_X12_init_0 89 rfl) (fun s248 es248 => ?_)
  replace hw := hw s248 es248
  refine v_aload_n X 0 rfl (gD D_X12_init_0 90 rfl) rfl ?_
  refine v_bipush X 8 (gD D_X12_init_0 91 rfl) (by decide) ?_
  obtain ⟨h249, h250, hw⟩ := hw
  obtain ⟨k251, n252, h253, h254, hw⟩ := hw
  refine v_newZ X lk_acboolean h249 h250 k251 n252 h253 h254 (gD D_X12_init_0 92 rfl) (fun a255 s256 ha255 es256 => ?_)
  replace hw := hw a255 s256 ha255 es256
  refine v_putRF X RX12 TX12 65 13 12 (by decide) rfl gin12 29 1229 tyX12 tyX12_ok nmX12 RX12 (Or.inl rfl) 23 rfl (fun b hb => ⟨0, by rw [← hb]; rfl⟩) rfl (by decide) (Or.inl rfl) lk_fRX12_77 rfl hin rfl rfl rfl (gD D_X12_init_0 93 rfl) (fun s257 es257 => ?_)
  replace hw := hw s257 es257
  refine v_aload_n X 0 rfl (gD D_X12_init_0 94 rfl) rfl ?_
  refine v_bipush X 8 (gD D_X12_init_0 95 rfl) (by decide) ?_
  obtain ⟨h258, h259, hw⟩ := hw
  obtain ⟨k260, n261, h262, h263, hw⟩ := hw
  refine v_newI X 21 (by decide) lk_acint h258 h259 k260 n261 h262 h263 (gD D_X12_init_0 96 rfl) (fun a264 s265 ha264 es265 => ?_)
  replace hw := hw a264 s265 ha264 es265
  refine v_putRF X RX12 TX12 65 13 12 (by decide) rfl gin12 30 1230 tyX12 tyX12_ok nmX12 RX12 (Or.inl rfl) 24 rfl (fun b hb => ⟨0, by rw [← hb]; rfl⟩) rfl (by decide) (Or.inl rfl) lk_fRX12_80 rfl hin rfl rfl rfl (gD D_X12_init_0 97 rfl) (fun s266 es266 => ?_)
  replace hw := hw s266 es266
  refine v_aload_n X 0 rfl (gD D_X12_init_0 98 rfl) rfl ?_
  refine v_bipush X 8 (gD D_X12_init_0 99 rfl) (by decide) ?_
  obtain ⟨h267, h268, hw⟩ := hw
  obtain ⟨k269, n270, h271, h272, hw⟩ := hw
  refine v_newI X 21 (by decide) lk_acint h267 h268 k269 n270 h271 h272 (gD D_X12_init_1 0 rfl) (fun a273 s274 ha273 es274 => ?_)
  replace hw := hw a273 s274 ha273 es274
  refine v_putRF X RX12 TX12 65 13 12 (by decide) rfl gin12 31 1231 tyX12 tyX12_ok nmX12 RX12 (Or.inl rfl) 25 rfl (fun b hb => ⟨0, by rw [← hb]; rfl⟩) rfl (by decide) (Or.inl rfl) lk_fRX12_83 rfl hin rfl rfl rfl (gD D_X12_init_1 1 rfl) (fun s275 es275 => ?_)
  replace hw := hw s275 es275
  refine v_aload_n X 0 rfl (gD D_X12_init_1 2 rfl) rfl ?_
  refine v_bipush X 8 (gD D_X12_init_1 3 rfl) (by decide) ?_
  obtain ⟨h276, h277, hw⟩ := hw
  obtain ⟨k278, n279, h280, h281, hw⟩ := hw
  refine v_newZ X lk_acboolean h276 h277 k278 n279 h280 h281 (gD D_X12_init_1 4 rfl) (fun a282 s283 ha282 es283 => ?_)
  replace hw := hw a282 s283 ha282 es283
  refine v_putRF X RX12 TX12 65 13 12 (by decide) rfl gin12 32 1232 tyX12 tyX12_ok nmX12 RX12 (Or.inl rfl) 26 rfl (fun b hb => ⟨0, by rw [← hb]; rfl⟩) rfl (by decide) (Or.inl rfl) lk_fRX12_86 rfl hin rfl rfl rfl (gD D_X12_init_1 5 rfl) (fun s284 es284 => ?_)
  replace hw := hw s284 es284
  refine v_aload_n X 0 rfl (gD D_X12_init_1 6 rfl) rfl ?_
  refine v_bipush X 96 (gD D_X12_init_1 7 rfl) (by decide) ?_
  obtain ⟨h285, h286, hw⟩ := hw
  obtain ⟨k287, n288, h289, h290, hw⟩ := hw
  refine v_newI X 21 (by decide) lk_acint h285 h286 k287 n288 h289 h290 (gD D_X12_init_1 8 rfl) (fun a291 s292 ha291 es292 => ?_)
  replace hw := hw a291 s292 ha291 es292
  refine v_putRF X RX12 TX12 65 13 12 (by decide) rfl gin12 33 1233 tyX12 tyX12_ok nmX12 RX12 (Or.inl rfl) 27 rfl (fun b hb => ⟨0, by rw [← hb]; rfl⟩) rfl (by decide) (Or.inl rfl) lk_fRX12_89 rfl hin rfl rfl rfl (gD D_X12_init_1 9 rfl) (fun s293 es293 => ?_)
  replace hw := hw s293 es293
  refine v_aload_n X 0 rfl (gD D_X12_init_1 10 rfl) rfl ?_
  refine v_sipush X 2400 (gD D_X12_init_1 11 rfl) (by decide) ?_
  obtain ⟨h294, h295, hw⟩ := hw
  obtain ⟨k296, n297, h298, h299, hw⟩ := hw
  refine v_newI X 21 (by decide) lk_acint h294 h295 k296 n297 h298 h299 (gD D_X12_init_1 12 rfl) (fun a300 s301 ha300 es301 => ?_)
  replace hw := hw a300 s301 ha300 es301
  refine v_putRF X RX12 TX12 65 13 12 (by decide) rfl gin12 34 1234 tyX12 tyX12_ok nmX12 RX12 (Or.inl rfl) 28 rfl (fun b hb => ⟨0, by rw [← hb]; rfl⟩) rfl (by decide) (Or.inl rfl) lk_fRX12_92 rfl hin rfl rfl rfl (gD D_X12_init_1 13 rfl) (fun s302 es302 => ?_)
  replace hw := hw s302 es302
  refine v_aload_n X 0 rfl (gD D_X12_init_1 14 rfl) rfl ?_
  refine v_bipush X 8 (gD D_X12_init_1 15 rfl) (by decide) ?_
  obtain ⟨h303, h304, hw⟩ := hw
  obtain ⟨k305, n306, h307, h308, hw⟩ := hw
  refine v_newI X 21 (by decide) lk_acint h303 h304 k305 n306 h307 h308 (gD D_X12_init_1 16 rfl) (fun a309 s310 ha309 es310 => ?_)
  replace hw := hw a309 s310 ha309 es310
  refine v_putRF X RX12 TX12 65 13 12 (by decide) rfl gin12 35 1235 tyX12 tyX12_ok nmX12 RX12 (Or.inl rfl) 29 rfl (fun b hb => ⟨0, by rw [← hb]; rfl⟩) rfl (by decide) (Or.inl rfl) lk_fRX12_95 rfl hin rfl rfl rfl (gD D_X12_init_1 17 rfl) (fun s311 es311 => ?_)
  replace hw := hw s311 es311
  refine v_aload_n X 0 rfl (gD D_X12_init_1 18 rfl) rfl ?_
  refine v_bipush X 24 (gD D_X12_init_1 19 rfl) (by decide) ?_
  obtain ⟨h312, h313, hw⟩ := hw
  obtain ⟨k314, n315, h316, h317, hw⟩ := hw
  refine v_newI X 21 (by decide) lk_acint h312 h313 k314 n315 h316 h317 (gD D_X12_init_1 20 rfl) (fun a318 s319 ha318 es319 => ?_)
  replace hw := hw a318 s319 ha318 es319
  refine v_putRF X RX12 TX12 65 13 12 (by decide) rfl gin12 36 1236 tyX12 tyX12_ok nmX12 RX12 (Or.inl rfl) 30 rfl (fun b hb => ⟨0, by rw [← hb]; rfl⟩) rfl (by decide) (Or.inl rfl) lk_fRX12_98 rfl hin rfl rfl rfl (gD D_X12_init_1 21 rfl) (fun s320 es320 => ?_)
  replace hw := hw s320 es320
  refine v_aload_n X 0 rfl (gD D_X12_init_1 22 rfl) rfl ?_
  refine v_bipush X 24 (gD D_X12_init_1 23 rfl) (by decide) ?_
  obtain ⟨h321, h322, hw⟩ := hw
  obtain ⟨k323, n324, h325, h326, hw⟩ := hw
  refine v_newI X 21 (by decide) lk_acint h321 h322 k323 n324 h325 h326 (gD D_X12_init_1 24 rfl) (fun a327 s328 ha327 es328 => ?_)
  replace hw := hw a327 s328 ha327 es328
  refine v_putRF X RX12 TX12 65 13 12 (by decide) rfl gin12 37 1237 tyX12 tyX12_ok nmX12 RX12 (Or.inl rfl) 31 rfl (fun b hb => ⟨0, by rw [← hb]; rfl⟩) rfl (by decide) (Or.inl rfl) lk_fRX12_101 rfl hin rfl rfl rfl (gD D_X12_init_1 25 rfl) (fun s329 es329 => ?_)
  replace hw := hw s329 es329
  refine v_aload_n X 0 rfl (gD D_X12_init_1 26 rfl) rfl ?_
  refine v_bipush X 24 (gD D_X12_init_1 27 rfl) (by decide) ?_
  obtain ⟨h330, h331, hw⟩ := hw
  obtain ⟨k332, n333, h334, h335, hw⟩ := hw
  refine v_newI X 21 (by decide) lk_acint h330 h331 k332 n333 h334 h335 (gD D_X12_init_1 28 rfl) (fun a336 s337 ha336 es337 => ?_)
  replace hw := hw a336 s337 ha336 es337
  refine v_putRF X RX12 TX12 65 13 12 (by decide) rfl gin12 38 1238 tyX12 tyX12_ok nmX12 RX12 (Or.inl rfl) 32 rfl (fun b hb => ⟨0, by rw [← hb]; rfl⟩) rfl (by decide) (Or.inl rfl) lk_fRX12_104 rfl hin rfl rfl rfl (gD D_X12_init_1 29 rfl) (fun s338 es338 => ?_)
  replace hw := hw s338 es338
  refine v_aload_n X 0 rfl (gD D_X12_init_1 30 rfl) rfl ?_
  refine v_sipush X 2400 (gD D_X12_init_1 31 rfl) (by decide) ?_
  obtain ⟨h339, h340, hw⟩ := hw
  obtain ⟨k341, n342, h343, h344, hw⟩ := hw
  refine v_newI X 21 (by decide) lk_acint h339 h340 k341 n342 h343 h344 (gD D_X12_init_1 32 rfl) (fun a345 s346 ha345 es346 => ?_)
  replace hw := hw a345 s346 ha345 es346
  refine v_putRF X RX12 TX12 65 13 12 (by decide) rfl gin12 40 1240 tyX12 tyX12_ok nmX12 RX12 (Or.inl rfl) 33 rfl (fun b hb => ⟨0, by rw [← hb]; rfl⟩) rfl (by decide) (Or.inl rfl) lk_fRX12_107 rfl hin rfl rfl rfl (gD D_X12_init_1 33 rfl) (fun s347 es347 => ?_)
  replace hw := hw s347 es347
  refine v_aload_n X 0 rfl (gD D_X12_init_1 34 rfl) rfl ?_
  refine v_sipush X 2400 (gD D_X12_init_1 35 rfl) (by decide) ?_
  obtain ⟨h348, h349, hw⟩ := hw
  obtain ⟨k350, n351, h352, h353, hw⟩ := hw
  refine v_newI X 21 (by decide) lk_acint h348 h349 k350 n351 h352 h353 (gD D_X12_init_1 36 rfl) (fun a354 s355 ha354 es355 => ?_)
  replace hw := hw a354 s355 ha354 es355
  refine v_putRF X RX12 TX12 65 13 12 (by decide) rfl gin12 41 1241 tyX12 tyX12_ok nmX12 RX12 (Or.inl rfl) 34 rfl (fun b hb => ⟨0, by rw [← hb]; rfl⟩) rfl (by decide) (Or.inl rfl) lk_fRX12_110 rfl hin rfl rfl rfl (gD D_X12_init_1 37 rfl) (fun s356 es356 => ?_)
  replace hw := hw s356 es356
  refine v_aload_n X 0 rfl (gD D_X12_init_1 38 rfl) rfl ?_
  refine v_sipush X 2400 (gD D_X12_init_1 39 rfl) (by decide) ?_
  obtain ⟨h357, h358, hw⟩ := hw
  obtain ⟨k359, n360, h361, h362, hw⟩ := hw
  refine v_newI X 21 (by decide) lk_acint h357 h358 k359 n360 h361 h362 (gD D_X12_init_1 40 rfl) (fun a363 s364 ha363 es364 => ?_)
  replace hw := hw a363 s364 ha363 es364
  refine v_putRF X RX12 TX12 65 13 12 (by decide) rfl gin12 42 1242 tyX12 tyX12_ok nmX12 RX12 (Or.inl rfl) 35 rfl (fun b hb => ⟨0, by rw [← hb]; rfl⟩) rfl (by decide) (Or.inl rfl) lk_fRX12_113 rfl hin rfl rfl rfl (gD D_X12_init_1 41 rfl) (fun s365 es365 => ?_)
  replace hw := hw s365 es365
  refine v_aload_n X 0 rfl (gD D_X12_init_1 42 rfl) rfl ?_
  refine v_sipush X 2400 (gD D_X12_init_1 43 rfl) (by decide) ?_
  obtain ⟨h366, h367, hw⟩ := hw
  obtain ⟨k368, n369, h370, h371, hw⟩ := hw
  refine v_newI X 21 (by decide) lk_acint h366 h367 k368 n369 h370 h371 (gD D_X12_init_1 44 rfl) (fun a372 s373 ha372 es373 => ?_)
  replace hw := hw a372 s373 ha372 es373
  refine v_putRF X RX12 TX12 65 13 12 (by decide) rfl gin12 43 1243 tyX12 tyX12_ok nmX12 RX12 (Or.inl rfl) 36 rfl (fun b hb => ⟨0, by rw [← hb]; rfl⟩) rfl (by decide) (Or.inl rfl) lk_fRX12_116 rfl hin rfl rfl rfl (gD D_X12_init_1 45 rfl) (fun s374 es374 => ?_)
  replace hw := hw s374 es374
  refine v_aload_n X 0 rfl (gD D_X12_init_1 46 rfl) rfl ?_
  refine v_sipush X 2400 (gD D_X12_init_1 47 rfl) (by decide) ?_
  obtain ⟨h375, h376, hw⟩ := hw
  obtain ⟨k377, n378, h379, h380, hw⟩ := hw
  refine v_newI X 21 (by decide) lk_acint h375 h376 k377 n378 h379 h380 (gD D_X12_init_1 48 rfl) (fun a381 s382 ha381 es382 => ?_)
  replace hw := hw a381 s382 ha381 es382
  refine v_putRF X RX12 TX12 65 13 12 (by decide) rfl gin12 44 1244 tyX12 tyX12_ok nmX12 RX12 (Or.inl rfl) 37 rfl (fun b hb => ⟨0, by rw [← hb]; rfl⟩) rfl (by decide) (Or.inl rfl) lk_fRX12_119 rfl hin rfl rfl rfl (gD D_X12_init_1 49 rfl) (fun s383 es383 => ?_)
  replace hw := hw s383 es383
  refine v_aload_n X 0 rfl (gD D_X12_init_1 50 rfl) rfl ?_
  refine v_bipush X 60 (gD D_X12_init_1 51 rfl) (by decide) ?_
  obtain ⟨h384, h385, hw⟩ := hw
  obtain ⟨k386, n387, h388, h389, hw⟩ := hw
  refine v_newI X 21 (by decide) lk_acint h384 h385 k386 n387 h388 h389 (gD D_X12_init_1 52 rfl) (fun a390 s391 ha390 es391 => ?_)
  replace hw := hw a390 s391 ha390 es391
  refine v_putRF X RX12 TX12 65 13 12 (by decide) rfl gin12 46 1246 tyX12 tyX12_ok nmX12 RX12 (Or.inl rfl) 38 rfl (fun b hb => ⟨0, by rw [← hb]; rfl⟩) rfl (by decide) (Or.inl rfl) lk_fRX12_122 rfl hin rfl rfl rfl (gD D_X12_init_1 53 rfl) (fun s392 es392 => ?_)
  replace hw := hw s392 es392
  refine v_aload_n X 0 rfl (gD D_X12_init_1 54 rfl) rfl ?_
  refine v_bipush X 60 (gD D_X12_init_1 55 rfl) (by decide) ?_
  obtain ⟨h393, h394, hw⟩ := hw
  obtain ⟨k395, n396, h397, h398, hw⟩ := hw
  refine v_newI X 21 (by decide) lk_acint h393 h394 k395 n396 h397 h398 (gD D_X12_init_1 56 rfl) (fun a399 s400 ha399 es400 => ?_)
  replace hw := hw a399 s400 ha399 es400
  refine v_putRF X RX12 TX12 65 13 12 (by decide) rfl gin12 47 1247 tyX12 tyX12_ok nmX12 RX12 (Or.inl rfl) 39 rfl (fun b hb => ⟨0, by rw [← hb]; rfl⟩) rfl (by decide) (Or.inl rfl) lk_fRX12_125 rfl hin rfl rfl rfl (gD D_X12_init_1 57 rfl) (fun s401 es401 => ?_)
  replace hw := hw s401 es401
  refine v_aload_n X 0 rfl (gD D_X12_init_1 58 rfl) rfl ?_
  refine v_bipush X 60 (gD D_X12_init_1 59 rfl) (by decide) ?_
  obtain ⟨h402, h403, hw⟩ := hw
  obtain ⟨k404, n405, h406, h407, hw⟩ := hw
  refine v_newI X 21 (by decide) lk_acint h402 h403 k404 n405 h406 h407 (gD D_X12_init_1 60 rfl) (fun a408 s409 ha408 es409 => ?_)
  replace hw := hw a408 s409 ha408 es409
  refine v_putRF X RX12 TX12 65 13 12 (by decide) rfl gin12 48 1248 tyX12 tyX12_ok nmX12 RX12 (Or.inl rfl) 40 rfl (fun b hb => ⟨0, by rw [← hb]; rfl⟩) rfl (by decide) (Or.inl rfl) lk_fRX12_128 rfl hin rfl rfl rfl (gD D_X12_init_1 61 rfl) (fun s410 es410 => ?_)
  replace hw := hw s410 es410
  refine v_aload_n X 0 rfl (gD D_X12_init_1 62 rfl) rfl ?_
  refine v_bipush X 60 (gD D_X12_init_1 63 rfl) (by decide) ?_
  obtain ⟨h411, h412, hw⟩ := hw
  obtain ⟨k413, n414, h415, h416, hw⟩ := hw
  refine v_newI X 21 (by decide) lk_acint h411 h412 k413 n414 h415 h416 (gD D_X12_init_1 64 rfl) (fun a417 s418 ha417 es418 => ?_)
  replace hw := hw a417 s418 ha417 es418
  refine v_putRF X RX12 TX12 65 13 12 (by decide) rfl gin12 49 1249 tyX12 tyX12_ok nmX12 RX12 (Or.inl rfl) 41 rfl (fun b hb => ⟨0, by rw [← hb]; rfl⟩) rfl (by decide) (Or.inl rfl) lk_fRX12_131 rfl hin rfl rfl rfl (gD D_X12_init_1 65 rfl) (fun s419 es419 => ?_)
  replace hw := hw s419 es419
  refine v_aload_n X 0 rfl (gD D_X12_init_1 66 rfl) rfl ?_
  refine v_bipush X 60 (gD D_X12_init_1 67 rfl) (by decide) ?_
  obtain ⟨h420, h421, hw⟩ := hw
  obtain ⟨k422, n423, h424, h425, hw⟩ := hw
  refine v_newI X 21 (by decide) lk_acint h420 h421 k422 n423 h424 h425 (gD D_X12_init_1 68 rfl) (fun a426 s427 ha426 es427 => ?_)
  replace hw := hw a426 s427 ha426 es427
  refine v_putRF X RX12 TX12 65 13 12 (by decide) rfl gin12 50 1250 tyX12 tyX12_ok nmX12 RX12 (Or.inl rfl) 42 rfl (fun b hb => ⟨0, by rw [← hb]; rfl⟩) rfl (by decide) (Or.inl rfl) lk_fRX12_134 rfl hin rfl rfl rfl (gD D_X12_init_1 69 rfl) (fun s428 es428 => ?_)
  replace hw := hw s428 es428
  refine v_aload_n X 0 rfl (gD D_X12_init_1 70 rfl) rfl ?_
  refine v_bipush X 60 (gD D_X12_init_1 71 rfl) (by decide) ?_
  obtain ⟨h429, h430, hw⟩ := hw
  obtain ⟨k431, n432, h433, h434, hw⟩ := hw
  refine v_newI X 21 (by decide) lk_acint h429 h430 k431 n432 h433 h434 (gD D_X12_init_1 72 rfl) (fun a435 s436 ha435 es436 => ?_)
  replace hw := hw a435 s436 ha435 es436
  refine v_putRF X RX12 TX12 65 13 12 (by decide) rfl gin12 51 1251 tyX12 tyX12_ok nmX12 RX12 (Or.inl rfl) 43 rfl (fun b hb => ⟨0, by rw [← hb]; rfl⟩) rfl (by decide) (Or.inl rfl) lk_fRX12_137 rfl hin rfl rfl rfl (gD D_X12_init_1 73 rfl) (fun s437 es437 => ?_)
  replace hw := hw s437 es437
  refine v_aload_n X 0 rfl (gD D_X12_init_1 74 rfl) rfl ?_
  refine v_bipush X 60 (gD D_X12_init_1 75 rfl) (by decide) ?_
  obtain ⟨h438, h439, hw⟩ := hw
  obtain ⟨k440, n441, h442, h443, hw⟩ := hw
  refine v_newI X 21 (by decide) lk_acint h438 h439 k440 n441 h442 h443 (gD D_X12_init_1 76 rfl) (fun a444 s445 ha444 es445 => ?_)
  replace hw := hw a444 s445 ha444 es445
  refine v_putRF X RX12 TX12 65 13 12 (by decide) rfl gin12 52 1252 tyX12 tyX12_ok nmX12 RX12 (Or.inl rfl) 44 rfl (fun b hb => ⟨0, by rw [← hb]; rfl⟩) rfl (by decide) (Or.inl rfl) lk_fRX12_140 rfl hin rfl rfl rfl (gD D_X12_init_1 77 rfl) (fun s446 es446 => ?_)
  replace hw := hw s446 es446
  refine v_aload_n X 0 rfl (gD D_X12_init_1 78 rfl) rfl ?_
  refine v_bipush X 60 (gD D_X12_init_1 79 rfl) (by decide) ?_
  obtain ⟨h447, h448, hw⟩ := hw
  obtain ⟨k449, n450, h451, h452, hw⟩ := hw
  refine v_newI X 21 (by decide) lk_acint h447 h448 k449 n450 h451 h452 (gD D_X12_init_1 80 rfl) (fun a453 s454 ha453 es454 => ?_)
  replace hw := hw a453 s454 ha453 es454
  refine v_putRF X RX12 TX12 65 13 12 (by decide) rfl gin12 53 1253 tyX12 tyX12_ok nmX12 RX12 (Or.inl rfl) 45 rfl (fun b hb => ⟨0, by rw [← hb]; rfl⟩) rfl (by decide) (Or.inl rfl) lk_fRX12_143 rfl hin rfl rfl rfl (gD D_X12_init_1 81 rfl) (fun s455 es455 => ?_)
  replace hw := hw s455 es455
  refine v_aload_n X 0 rfl (gD D_X12_init_1 82 rfl) rfl ?_
  refine v_bipush X 60 (gD D_X12_init_1 83 rfl) (by decide) ?_
  obtain ⟨h456, h457, hw⟩ := hw
  obtain ⟨k458, n459, h460, h461, hw⟩ := hw
  refine v_newZ X lk_acboolean h456 h457 k458 n459 h460 h461 (gD D_X12_init_1 84 rfl) (fun a462 s463 ha462 es463 => ?_)
  replace hw := hw a462 s463 ha462 es463
  refine v_putRF X RX12 TX12 65 13 12 (by decide) rfl gin12 54 1254 tyX12 tyX12_ok nmX12 RX12 (Or.inl rfl) 46 rfl (fun b hb => ⟨0, by rw [← hb]; rfl⟩) rfl (by decide) (Or.inl rfl) lk_fRX12_146 rfl hin rfl rfl rfl (gD D_X12_init_1 85 rfl) (fun s464 es464 => ?_)
  replace hw := hw s464 es464
  refine v_aload_n X 0 rfl (gD D_X12_init_1 86 rfl) rfl ?_
  refine v_iconst X 3 (gD D_X12_init_1 87 rfl) (by decide) ?_
  obtain ⟨h465, h466, hw⟩ := hw
  obtain ⟨k467, n468, h469, h470, hw⟩ := hw
  refine v_newI X 21 (by decide) lk_acint h465 h466 k467 n468 h469 h470 (gD D_X12_init_1 88 rfl) (fun a471 s472 ha471 es472 => ?_)
  replace hw := hw a471 s472 ha471 es472
  refine v_putRF X RX12 TX12 65 13 12 (by decide) rfl gin12 55 1255 tyX12 tyX12_ok nmX12 RX12 (Or.inl rfl) 47 rfl (fun b hb => ⟨0, by rw [← hb]; rfl⟩) rfl (by decide) (Or.inl rfl) lk_fRX12_149 rfl hin rfl rfl rfl (gD D_X12_init_1 89 rfl) (fun s473 es473 => ?_)
  replace hw := hw s473 es473
  refine v_aload_n X 0 rfl (gD D_X12_init_1 90 rfl) rfl ?_
  refine v_iconst X 3 (gD D_X12_init_1 91 rfl) (by decide) ?_
  obtain ⟨h474, h475, hw⟩ := hw
  obtain ⟨k476, n477, h478, h479, hw⟩ := hw
  refine v_newI X 21 (by decide) lk_acint h474 h475 k476 n477 h478 h479 (gD D_X12_init_1 92 rfl) (fun a480 s481 ha480 es481 => ?_)
  replace hw := hw a480 s481 ha480 es481
  refine v_putRF X RX12 TX12 65 13 12 (by decide) rfl gin12 56 1256 tyX12 tyX12_ok nmX12 RX12 (Or.inl rfl) 48 rfl (fun b hb => ⟨0, by rw [← hb]; rfl⟩) rfl (by decide) (Or.inl rfl) lk_fRX12_152 rfl hin rfl rfl rfl (gD D_X12_init_1 93 rfl) (fun s482 es482 => ?_)
  replace hw := hw s482 es482
  refine v_aload_n X 0 rfl (gD D_X12_init_1 94 rfl) rfl ?_
  refine v_iconst X 3 (gD D_X12_init_1 95 rfl) (by decide) ?_
  obtain ⟨h483, h484, hw⟩ := hw
  obtain ⟨k485, n486, h487, h488, hw⟩ := hw
  refine v_newI X 21 (by decide) lk_acint h483 h484 k485 n486 h487 h488 (gD D_X12_init_1 96 rfl) (fun a489 s490 ha489 es490 => ?_)
  replace hw := hw a489 s490 ha489 es490
  refine v_putRF X RX12 TX12 65 13 12 (by decide) rfl gin12 57 1257 tyX12 tyX12_ok nmX12 RX12 (Or.inl rfl) 49 rfl (fun b hb => ⟨0, by rw [← hb]; rfl⟩) rfl (by decide) (Or.inl rfl) lk_fRX12_155 rfl hin rfl rfl rfl (gD D_X12_init_1 97 rfl) (fun s491 es491 => ?_)
  replace hw := hw s491 es491
  refine v_aload_n X 0 rfl (gD D_X12_init_1 98 rfl) rfl ?_
  refine v_sipush X 180 (gD D_X12_init_1 99 rfl) (by decide) ?_
  obtain ⟨h492, h493, hw⟩ := hw
  obtain ⟨k494, n495, h496, h497, hw⟩ := hw
  refine v_newI X 21 (by decide) lk_acint h492 h493 k494 n495 h496 h497 (gD D_X12_init_2 0 rfl) (fun a498 s499 ha498 es499 => ?_)
  replace hw := hw a498 s499 ha498 es499
  refine v_putRF X RX12 TX12 65 13 12 (by decide) rfl gin12 58 1258 tyX12 tyX12_ok nmX12 RX12 (Or.inl rfl) 50 rfl (fun b hb => ⟨0, by rw [← hb]; rfl⟩) rfl (by decide) (Or.inl rfl) lk_fRX12_158 rfl hin rfl rfl rfl (gD D_X12_init_2 1 rfl) (fun s500 es500 => ?_)
  replace hw := hw s500 es500
  refine v_aload_n X 0 rfl (gD D_X12_init_2 2 rfl) rfl ?_
  refine v_iconst X 3 (gD D_X12_init_2 3 rfl) (by decide) ?_
  obtain ⟨h501, h502, hw⟩ := hw
  obtain ⟨k503, n504, h505, h506, hw⟩ := hw
  refine v_newI X 21 (by decide) lk_acint h501 h502 k503 n504 h505 h506 (gD D_X12_init_2 4 rfl) (fun a507 s508 ha507 es508 => ?_)
  replace hw := hw a507 s508 ha507 es508
  refine v_putRF X RX12 TX12 65 13 12 (by decide) rfl gin12 59 1259 tyX12 tyX12_ok nmX12 RX12 (Or.inl rfl) 51 rfl (fun b hb => ⟨0, by rw [← hb]; rfl⟩) rfl (by decide) (Or.inl rfl) lk_fRX12_161 rfl hin rfl rfl rfl (gD D_X12_init_2 5 rfl) (fun s509 es509 => ?_)
  replace hw := hw s509 es509
  refine v_aload_n X 0 rfl (gD D_X12_init_2 6 rfl) rfl ?_
  refine v_bipush X 6 (gD D_X12_init_2 7 rfl) (by decide) ?_
  obtain ⟨h510, h511, hw⟩ := hw
  obtain ⟨k512, n513, h514, h515, hw⟩ := hw
  refine v_newI X 21 (by decide) lk_acint h510 h511 k512 n513 h514 h515 (gD D_X12_init_2 8 rfl) (fun a516 s517 ha516 es517 => ?_)
  replace hw := hw a516 s517 ha516 es517
  refine v_putRF X RX12 TX12 65 13 12 (by decide) rfl gin12 60 1260 tyX12 tyX12_ok nmX12 RX12 (Or.inl rfl) 52 rfl (fun b hb => ⟨0, by rw [← hb]; rfl⟩) rfl (by decide) (Or.inl rfl) lk_fRX12_164 rfl hin rfl rfl rfl (gD D_X12_init_2 9 rfl) (fun s518 es518 => ?_)
  replace hw := hw s518 es518
  refine v_aload_n X 0 rfl (gD D_X12_init_2 10 rfl) rfl ?_
  refine v_sipush X 300 (gD D_X12_init_2 11 rfl) (by decide) ?_
  obtain ⟨h519, h520, hw⟩ := hw
  obtain ⟨k521, n522, h523, h524, hw⟩ := hw
  refine v_newI X 21 (by decide) lk_acint h519 h520 k521 n522 h523 h524 (gD D_X12_init_2 12 rfl) (fun a525 s526 ha525 es526 => ?_)
  replace hw := hw a525 s526 ha525 es526
  refine v_putRF X RX12 TX12 65 13 12 (by decide) rfl gin12 61 1261 tyX12 tyX12_ok nmX12 RX12 (Or.inl rfl) 53 rfl (fun b hb => ⟨0, by rw [← hb]; rfl⟩) rfl (by decide) (Or.inl rfl) lk_fRX12_167 rfl hin rfl rfl rfl (gD D_X12_init_2 13 rfl) (fun s527 es527 => ?_)
  replace hw := hw s527 es527
  refine v_aload_n X 0 rfl (gD D_X12_init_2 14 rfl) rfl ?_
  refine v_sipush X 300 (gD D_X12_init_2 15 rfl) (by decide) ?_
  obtain ⟨h528, h529, hw⟩ := hw
  obtain ⟨k530, n531, h532, h533, hw⟩ := hw
  refine v_newI X 21 (by decide) lk_acint h528 h529 k530 n531 h532 h533 (gD D_X12_init_2 16 rfl) (fun a534 s535 ha534 es535 => ?_)
  replace hw := hw a534 s535 ha534 es535
  refine v_putRF X RX12 TX12 65 13 12 (by decide) rfl gin12 62 1262 tyX12 tyX12_ok nmX12 RX12 (Or.inl rfl) 54 rfl (fun b hb => ⟨0, by rw [← hb]; rfl⟩) rfl (by decide) (Or.inl rfl) lk_fRX12_170 rfl hin rfl rfl rfl (gD D_X12_init_2 17 rfl) (fun s536 es536 => ?_)
  replace hw := hw s536 es536
  refine v_aload_n X 0 rfl (gD D_X12_init_2 18 rfl) rfl ?_
  refine v_sipush X 300 (gD D_X12_init_2 19 rfl) (by decide) ?_
  obtain ⟨h537, h538, hw⟩ := hw
  obtain ⟨k539, n540, h541, h542, hw⟩ := hw
  refine v_newI X 21 (by decide) lk_acint h537 h538 k539 n540 h541 h542 (gD D_X12_init_2 20 rfl) (fun a543 s544 ha543 es544 => ?_)
  replace hw := hw a543 s544 ha543 es544
  refine v_putRF X RX12 TX12 65 13 12 (by decide) rfl gin12 63 1263 tyX12 tyX12_ok nmX12 RX12 (Or.inl rfl) 55 rfl (fun b hb => ⟨0, by rw [← hb]; rfl⟩) rfl (by decide) (Or.inl rfl) lk_fRX12_173 rfl hin rfl rfl rfl (gD D_X12_init_2 21 rfl) (fun s545 es545 => ?_)
  replace hw := hw s545 es545
  refine v_aload_n X 0 rfl (gD D_X12_init_2 22 rfl) rfl ?_
  refine v_sipush X 300 (gD D_X12_init_2 23 rfl) (by decide) ?_
  obtain ⟨h546, h547, hw⟩ := hw
  obtain ⟨k548, n549, h550, h551, hw⟩ := hw
  refine v_newI X 21 (by decide) lk_acint h546 h547 k548 n549 h550 h551 (gD D_X12_init_2 24 rfl) (fun a552 s553 ha552 es553 => ?_)
  replace hw := hw a552 s553 ha552 es553
  refine v_putRF X RX12 TX12 65 13 12 (by decide) rfl gin12 64 1264 tyX12 tyX12_ok nmX12 RX12 (Or.inl rfl) 56 rfl (fun b hb => ⟨0, by rw [← hb]; rfl⟩) rfl (by decide) (Or.inl rfl) lk_fRX12_176 rfl hin rfl rfl rfl (gD D_X12_init_2 25 rfl) (fun s554 es554 => ?_)
  replace hw := hw s554 es554
  refine v_iconst X 0 (gD D_X12_init_2 26 rfl) (by decide) ?_
  refine v_istore_n X [(1, .int 0), (0, va_rf (some a0))] (gD D_X12_init_2 27 rfl) rfl (by decide) rfl ?_
  obtain ⟨f590, hw⟩ := hw
  exact v_sub [56] [1, 0] rfl rfl (t_X12_init_464 X hr hin htr  f590 a0 0 s554 k548 n549 hw)
set_option maxRecDepth 100000 in
set_option maxHeartbeats 4000000 in
theorem c_X12_isFor {l : Launch} {G : GX} (htr : l.stackTraces = false) {σ : St} {a0 : Nat} {x1 : Int32} {x2 : Int32} {Q : Int32 → St → Prop} (ht : tvOk σ [(some a0, 13)]) (hw : w_X12_isFor a0 x1 x2 σ Q) : MI l G 2 σ yX12_isFor cX12_isFor 3 (some .boolean) 0 0 0 [va_rf (some a0), .int x1, .int x2] Q := by
  unfold w_X12_isFor at hw
  refine m_start RX12 (by decide) htr ht (Nat.le_of_ble_eq_true rfl) rfl (lv := [(0, va_rf (some a0)), (1, .int x1), (2, .int x2)]) (d := 2) (fun p e s m args below meth c X hr hin => ?_)
  refine v_aload_n X 0 rfl (gD D_X12_isFor_0 0 rfl) rfl ?_
  refine v_getR X RX12 TX12 65 13 12 (by decide) rfl gin12 44 1244 RX12 (Or.inl rfl) 0 21 rfl rfl rfl (by decide) lk_fRX12_119 (gD D_X12_isFor_0 1 rfl) (fun o51 eo51 => ?_)
  replace hw := hw o51 eo51
  refine v_iload_n X 1 rfl (gD D_X12_isFor_0 2 rfl) rfl ?_
  obtain ⟨a52, rfl, hw⟩ := hw
  obtain ⟨h53, hw⟩ := hw
  refine v_iald X 0 rfl (by decide) h53 (gD D_X12_isFor_0 3 rfl) ?_
  refine v_iconst X (-1) (gD D_X12_isFor_0 4 rfl) (by decide) ?_
  refine v_icmp_ne X 30 (gD D_X12_isFor_0 5 rfl) (by decide) (fun c54 => ?_) (fun c54 => ?_)
  · replace hw := hw.1 c54
    refine v_iconst X 0 (gD D_X12_isFor_0 20 rfl) (by decide) ?_
    exact v_zret X hr (by decide) hw (gD D_X12_isFor_0 21 rfl)
  · replace hw := hw.2 c54
    refine v_iload_n X 2 rfl (gD D_X12_isFor_0 6 rfl) rfl ?_
    refine v_aload_n X 0 rfl (gD D_X12_isFor_0 7 rfl) rfl ?_
    refine v_getR X RX12 TX12 65 13 12 (by decide) rfl gin12 40 1240 RX12 (Or.inl rfl) 1 21 rfl rfl rfl (by decide) lk_fRX12_107 (gD D_X12_isFor_0 8 rfl) (fun o55 eo55 => ?_)
    replace hw := hw o55 eo55
    refine v_iload_n X 1 rfl (gD D_X12_isFor_0 9 rfl) rfl ?_
    obtain ⟨a56, rfl, hw⟩ := hw
    obtain ⟨h57, hw⟩ := hw
    refine v_iald X 0 rfl (by decide) h57 (gD D_X12_isFor_0 10 rfl) ?_
    refine v_iconst X 3 (gD D_X12_isFor_0 11 rfl) (by decide) ?_
    refine v_idiv X (gD D_X12_isFor_0 12 rfl) (by decide) ?_
    refine v_ishr X (gD D_X12_isFor_0 13 rfl) ?_
    refine v_iconst X 1 (gD D_X12_isFor_0 14 rfl) (by decide) ?_
    refine v_iand X (gD D_X12_isFor_0 15 rfl) ?_
    refine v_iconst X 1 (gD D_X12_isFor_0 16 rfl) (by decide) ?_
    refine v_icmp_ne X 30 (gD D_X12_isFor_0 17 rfl) (by decide) (fun c58 => ?_) (fun c58 => ?_)
    · replace hw := hw.1 c58
      refine v_iconst X 0 (gD D_X12_isFor_0 20 rfl) (by decide) ?_
      exact v_zret X hr (by decide) hw (gD D_X12_isFor_0 21 rfl)
    · replace hw := hw.2 c58
      refine v_iconst X 1 (gD D_X12_isFor_0 18 rfl) (by decide) ?_
      refine v_goto X 31 (gD D_X12_isFor_0 19 rfl) (by decide) ?_
      exact v_zret X hr (by decide) hw (gD D_X12_isFor_0 21 rfl)
set_option maxRecDepth 100000 in
set_option maxHeartbeats 4000000 in
theorem t_X12_isHeldByOther_5 {p : Program} {l : Launch} {e : Env} {s : State} {m : MethodId} {args : Array Value} {below : List Frame} {meth : Method} {c : Code} {G : GX} {σ0 : St} {mc ms : Nat} {Q : Int32 → St → Prop} (X : VC p l (rmD 0 mc ms) s m args meth c G 0 mc ms 5 RX12 cX12_isHeldByOther) (hr : meth.sig.returnType = (some .boolean)) (hin : meth.name = yX12_isHeldByOther.name) (htr : l.stackTraces = false) : ∀ (f : Nat) (a0 : Nat) (x1 : Int32) (x2 : Int32) (x3 : Int32) (x4 : Int32) (σ : St), w_X12_isHeldByOther_5 Q  f a0 x1 x2 x3 x4 σ → V p l e (rmD 0 mc ms) s m args below meth c (MQ below (va_Qi Q (gB G 2 σ0) (GA G)) args s mc ms (GA G)) G 2 σ0 mc ms 5 σ 0 0 [(some a0, 13)] 5 [(0, va_rf (some a0)), (1, .int x1), (2, .int x2), (3, .int x3), (4, .int x4)] [] := by
  intro f
  induction f with
  | zero => intro a0 x1 x2 x3 x4 σ hw; exact hw.elim
  | succ f ih =>
    intro a0 x1 x2 x3 x4 σ hw
    unfold w_X12_isHeldByOther_5 at hw
    refine v_iload X 4 rfl (gD D_X12_isHeldByOther_0 4 rfl) ?_
    refine v_iconst X 3 (gD D_X12_isHeldByOther_0 5 rfl) (by decide) ?_
    refine v_icmp_ge X 44 (gD D_X12_isHeldByOther_0 6 rfl) (by decide) (fun c51 => ?_) (fun c51 => ?_)
    · replace hw := hw.1 c51
      refine v_iload_n X 3 rfl (gD D_X12_isHeldByOther_0 24 rfl) rfl ?_
      exact v_zret X hr hw.1 hw.2 (gD D_X12_isHeldByOther_0 25 rfl)
    · replace hw := hw.2 c51
      refine v_iload_n X 3 rfl (gD D_X12_isHeldByOther_0 7 rfl) rfl ?_
      refine v_if_ne X 32 (gD D_X12_isHeldByOther_0 8 rfl) (by decide) (fun c52 => ?_) (fun c52 => ?_)
      · replace hw := hw.1 c52
        refine v_iconst X 1 (gD D_X12_isHeldByOther_0 18 rfl) (by decide) ?_
        refine v_goto X 37 (gD D_X12_isHeldByOther_0 19 rfl) (by decide) ?_
        refine v_istore_n X [(3, .int 1), (0, va_rf (some a0)), (1, .int x1), (2, .int x2), (4, .int x4)] (gD D_X12_isHeldByOther_0 21 rfl) rfl (by decide) rfl ?_
        refine v_iinc X (x4 + 1) 4 rfl [(4, .int (x4 + 1)), (3, .int 1), (0, va_rf (some a0)), (1, .int x1), (2, .int x2)] (gD D_X12_isHeldByOther_0 22 rfl) rfl (by decide) rfl ?_
        refine v_goto X 5 (gD D_X12_isHeldByOther_0 23 rfl) (by decide) ?_
        exact v_sub [0] [2, 3, 4, 1, 0] rfl rfl (ih a0 x1 x2 1 (x4 + 1) σ hw)
      · replace hw := hw.2 c52
        refine v_iload X 4 rfl (gD D_X12_isHeldByOther_0 9 rfl) ?_
        refine v_iload_n X 1 rfl (gD D_X12_isHeldByOther_0 10 rfl) rfl ?_
        refine v_icmp_eq X 36 (gD D_X12_isHeldByOther_0 11 rfl) (by decide) (fun c53 => ?_) (fun c53 => ?_)
        · replace hw := hw.1 c53
          refine v_iconst X 0 (gD D_X12_isHeldByOther_0 20 rfl) (by decide) ?_
          refine v_istore_n X [(3, .int 0), (0, va_rf (some a0)), (1, .int x1), (2, .int x2), (4, .int x4)] (gD D_X12_isHeldByOther_0 21 rfl) rfl (by decide) rfl ?_
          refine v_iinc X (x4 + 1) 4 rfl [(4, .int (x4 + 1)), (3, .int 0), (0, va_rf (some a0)), (1, .int x1), (2, .int x2)] (gD D_X12_isHeldByOther_0 22 rfl) rfl (by decide) rfl ?_
          refine v_goto X 5 (gD D_X12_isHeldByOther_0 23 rfl) (by decide) ?_
          exact v_sub [0] [2, 3, 4, 1, 0] rfl rfl (ih a0 x1 x2 0 (x4 + 1) σ hw)
        · replace hw := hw.2 c53
          refine v_aload_n X 0 rfl (gD D_X12_isHeldByOther_0 12 rfl) rfl ?_
          refine v_getR X RX12 TX12 65 13 12 (by decide) rfl gin12 55 1255 RX12 (Or.inl rfl) 0 21 rfl rfl rfl (by decide) lk_fRX12_149 (gD D_X12_isHeldByOther_0 13 rfl) (fun o54 eo54 => ?_)
          replace hw := hw o54 eo54
          refine v_iload X 4 rfl (gD D_X12_isHeldByOther_0 14 rfl) ?_
          obtain ⟨a55, rfl, hw⟩ := hw
          obtain ⟨h56, hw⟩ := hw
          refine v_iald X 0 rfl (by decide) h56 (gD D_X12_isHeldByOther_0 15 rfl) ?_
          refine v_iload_n X 2 rfl (gD D_X12_isHeldByOther_0 16 rfl) rfl ?_
          refine v_icmp_ne X 36 (gD D_X12_isHeldByOther_0 17 rfl) (by decide) (fun c57 => ?_) (fun c57 => ?_)
          · replace hw := hw.1 c57
            refine v_iconst X 0 (gD D_X12_isHeldByOther_0 20 rfl) (by decide) ?_
            refine v_istore_n X [(3, .int 0), (0, va_rf (some a0)), (1, .int x1), (2, .int x2), (4, .int x4)] (gD D_X12_isHeldByOther_0 21 rfl) rfl (by decide) rfl ?_
            refine v_iinc X (x4 + 1) 4 rfl [(4, .int (x4 + 1)), (3, .int 0), (0, va_rf (some a0)), (1, .int x1), (2, .int x2)] (gD D_X12_isHeldByOther_0 22 rfl) rfl (by decide) rfl ?_
            refine v_goto X 5 (gD D_X12_isHeldByOther_0 23 rfl) (by decide) ?_
            exact v_sub [1] [2, 3, 4, 1, 0] rfl rfl (ih a0 x1 x2 0 (x4 + 1) σ hw)
          · replace hw := hw.2 c57
            refine v_iconst X 1 (gD D_X12_isHeldByOther_0 18 rfl) (by decide) ?_
            refine v_goto X 37 (gD D_X12_isHeldByOther_0 19 rfl) (by decide) ?_
            refine v_istore_n X [(3, .int 1), (0, va_rf (some a0)), (1, .int x1), (2, .int x2), (4, .int x4)] (gD D_X12_isHeldByOther_0 21 rfl) rfl (by decide) rfl ?_
            refine v_iinc X (x4 + 1) 4 rfl [(4, .int (x4 + 1)), (3, .int 1), (0, va_rf (some a0)), (1, .int x1), (2, .int x2)] (gD D_X12_isHeldByOther_0 22 rfl) rfl (by decide) rfl ?_
            refine v_goto X 5 (gD D_X12_isHeldByOther_0 23 rfl) (by decide) ?_
            exact v_sub [1] [2, 3, 4, 1, 0] rfl rfl (ih a0 x1 x2 1 (x4 + 1) σ hw)
set_option maxRecDepth 100000 in
set_option maxHeartbeats 4000000 in
theorem c_X12_isHeldByOther {l : Launch} {G : GX} (htr : l.stackTraces = false) {σ : St} {a0 : Nat} {x1 : Int32} {x2 : Int32} {Q : Int32 → St → Prop} (ht : tvOk σ [(some a0, 13)]) (hw : w_X12_isHeldByOther a0 x1 x2 σ Q) : MI l G 2 σ yX12_isHeldByOther cX12_isHeldByOther 5 (some .boolean) 0 0 0 [va_rf (some a0), .int x1, .int x2] Q := by
  unfold w_X12_isHeldByOther at hw
  refine m_start RX12 (by decide) htr ht (Nat.le_of_ble_eq_true rfl) rfl (lv := [(0, va_rf (some a0)), (1, .int x1), (2, .int x2)]) (d := 2) (fun p e s m args below meth c X hr hin => ?_)
  refine v_iconst X 0 (gD D_X12_isHeldByOther_0 0 rfl) (by decide) ?_
  refine v_istore_n X [(3, .int 0), (0, va_rf (some a0)), (1, .int x1), (2, .int x2)] (gD D_X12_isHeldByOther_0 1 rfl) rfl (by decide) rfl ?_
  refine v_iconst X 0 (gD D_X12_isHeldByOther_0 2 rfl) (by decide) ?_
  refine v_istore X [(4, .int 0), (3, .int 0), (0, va_rf (some a0)), (1, .int x1), (2, .int x2)] (gD D_X12_isHeldByOther_0 3 rfl) (by decide) rfl ?_
  obtain ⟨f58, hw⟩ := hw
  exact v_sub [0] [2, 3, 4, 1, 0] rfl rfl (t_X12_isHeldByOther_5 X hr hin htr  f58 a0 x1 x2 0 0 σ hw)
set_option maxRecDepth 100000 in
set_option maxHeartbeats 4000000 in
theorem c_X12_isIn {l : Launch} {G : GX} (htr : l.stackTraces = false) {σ : St} {x0 : Int32} {x1 : Int32} {x2 : Int32} {Q : Int32 → St → Prop} (ht : tvOk σ []) (hw : w_X12_isIn x0 x1 x2 σ Q) : MI l G 2 σ yX12_isIn cX12_isIn 3 (some .boolean) 0 0 0 [.int x0, .int x1, .int x2] Q := by
  unfold w_X12_isIn at hw
  refine m_start RX12 (by decide) htr ht (Nat.le_of_ble_eq_true rfl) rfl (lv := [(0, .int x0), (1, .int x1), (2, .int x2)]) (d := 2) (fun p e s m args below meth c X hr hin => ?_)
  refine v_iload_n X 0 rfl (gD D_X12_isIn_0 0 rfl) rfl ?_
  refine v_iload_n X 1 rfl (gD D_X12_isIn_0 1 rfl) rfl ?_
  refine v_icmp_lt X 14 (gD D_X12_isIn_0 2 rfl) (by decide) (fun c51 => ?_) (fun c51 => ?_)
  · replace hw := hw.1 c51
    refine v_iconst X 0 (gD D_X12_isIn_0 8 rfl) (by decide) ?_
    exact v_zret X hr (by decide) hw (gD D_X12_isIn_0 9 rfl)
  · replace hw := hw.2 c51
    refine v_iload_n X 0 rfl (gD D_X12_isIn_0 3 rfl) rfl ?_
    refine v_iload_n X 2 rfl (gD D_X12_isIn_0 4 rfl) rfl ?_
    refine v_icmp_gt X 14 (gD D_X12_isIn_0 5 rfl) (by decide) (fun c52 => ?_) (fun c52 => ?_)
    · replace hw := hw.1 c52
      refine v_iconst X 0 (gD D_X12_isIn_0 8 rfl) (by decide) ?_
      exact v_zret X hr (by decide) hw (gD D_X12_isIn_0 9 rfl)
    · replace hw := hw.2 c52
      refine v_iconst X 1 (gD D_X12_isIn_0 6 rfl) (by decide) ?_
      refine v_goto X 15 (gD D_X12_isIn_0 7 rfl) (by decide) ?_
      exact v_zret X hr (by decide) hw (gD D_X12_isIn_0 9 rfl)
set_option maxRecDepth 100000 in
set_option maxHeartbeats 4000000 in
theorem c_X12_isOn {l : Launch} {G : GX} (htr : l.stackTraces = false) {σ : St} {a0 : Nat} {x1 : Int32} {Q : Int32 → St → Prop} (ht : tvOk σ [(some a0, 13)]) (hw : w_X12_isOn a0 x1 σ Q) : MI l G 2 σ yX12_isOn cX12_isOn 2 (some .boolean) 0 0 0 [va_rf (some a0), .int x1] Q := by
  unfold w_X12_isOn at hw
  refine m_start RX12 (by decide) htr ht (Nat.le_of_ble_eq_true rfl) rfl (lv := [(0, va_rf (some a0)), (1, .int x1)]) (d := 2) (fun p e s m args below meth c X hr hin => ?_)
  refine v_aload_n X 0 rfl (gD D_X12_isOn_0 0 rfl) rfl ?_
  refine v_getR X RX12 TX12 65 13 12 (by decide) rfl gin12 52 1252 RX12 (Or.inl rfl) 0 21 rfl rfl rfl (by decide) lk_fRX12_140 (gD D_X12_isOn_0 1 rfl) (fun o51 eo51 => ?_)
  replace hw := hw o51 eo51
  refine v_iload_n X 1 rfl (gD D_X12_isOn_0 2 rfl) rfl ?_
  obtain ⟨a52, rfl, hw⟩ := hw
  obtain ⟨h53, hw⟩ := hw
  refine v_iald X 0 rfl (by decide) h53 (gD D_X12_isOn_0 3 rfl) ?_
  refine v_if_eq X 19 (gD D_X12_isOn_0 4 rfl) (by decide) (fun c54 => ?_) (fun c54 => ?_)
  · replace hw := hw.1 c54
    refine v_iconst X 1 (gD D_X12_isOn_0 11 rfl) (by decide) ?_
    refine v_goto X 24 (gD D_X12_isOn_0 12 rfl) (by decide) ?_
    exact v_zret X hr (by decide) hw (gD D_X12_isOn_0 14 rfl)
  · replace hw := hw.2 c54
    refine v_aload_n X 0 rfl (gD D_X12_isOn_0 5 rfl) rfl ?_
    refine v_getR X RX12 TX12 65 13 12 (by decide) rfl gin12 52 1252 RX12 (Or.inl rfl) 1 21 rfl rfl rfl (by decide) lk_fRX12_140 (gD D_X12_isOn_0 6 rfl) (fun o55 eo55 => ?_)
    replace hw := hw o55 eo55
    refine v_iload_n X 1 rfl (gD D_X12_isOn_0 7 rfl) rfl ?_
    obtain ⟨a56, rfl, hw⟩ := hw
    obtain ⟨h57, hw⟩ := hw
    refine v_iald X 0 rfl (by decide) h57 (gD D_X12_isOn_0 8 rfl) ?_
    refine v_iconst X 1 (gD D_X12_isOn_0 9 rfl) (by decide) ?_
    refine v_icmp_ne X 23 (gD D_X12_isOn_0 10 rfl) (by decide) (fun c58 => ?_) (fun c58 => ?_)
    · replace hw := hw.1 c58
      refine v_iconst X 0 (gD D_X12_isOn_0 13 rfl) (by decide) ?_
      exact v_zret X hr (by decide) hw (gD D_X12_isOn_0 14 rfl)
    · replace hw := hw.2 c58
      refine v_iconst X 1 (gD D_X12_isOn_0 11 rfl) (by decide) ?_
      refine v_goto X 24 (gD D_X12_isOn_0 12 rfl) (by decide) ?_
      exact v_zret X hr (by decide) hw (gD D_X12_isOn_0 14 rfl)
set_option maxRecDepth 100000 in
set_option maxHeartbeats 4000000 in
theorem t_X12_itemIn_5 {p : Program} {l : Launch} {e : Env} {s : State} {m : MethodId} {args : Array Value} {below : List Frame} {meth : Method} {c : Code} {G : GX} {σ0 : St} {mc ms : Nat} {Q : Int32 → St → Prop} (X : VC p l (rmD 0 mc ms) s m args meth c G 0 mc ms 5 RX12 cX12_itemIn) (hr : meth.sig.returnType = (some .int)) (hin : meth.name = yX12_itemIn.name) (htr : l.stackTraces = false) : ∀ (f : Nat) (a0 : Nat) (x1 : Int32) (x2 : Int32) (x3 : Int32) (x4 : Int32) (σ : St), w_X12_itemIn_5 Q  f a0 x1 x2 x3 x4 σ → V p l e (rmD 0 mc ms) s m args below meth c (MQ below (va_Qi Q (gB G 2 σ0) (GA G)) args s mc ms (GA G)) G 2 σ0 mc ms 5 σ 0 0 [(some a0, 13)] 5 [(0, va_rf (some a0)), (1, .int x1), (2, .int x2), (3, .int x3), (4, .int x4)] [] := by
  intro f
  induction f with
  | zero => intro a0 x1 x2 x3 x4 σ hw; exact hw.elim
  | succ f ih =>
    intro a0 x1 x2 x3 x4 σ hw
    unfold w_X12_itemIn_5 at hw
    refine v_iload X 4 rfl (gD D_X12_itemIn_0 4 rfl) ?_
    refine v_aload_n X 0 rfl (gD D_X12_itemIn_0 5 rfl) rfl ?_
    refine v_getI X RX12 TX12 65 13 12 (by decide) rfl gin12 15 1215 RX12 (Or.inl rfl) 0 rfl rfl (by decide) lk_fRX12_187 (gD D_X12_itemIn_0 6 rfl) ?_
    refine v_icmp_ge X 50 (gD D_X12_itemIn_0 7 rfl) (by decide) (fun c51 => ?_) (fun c51 => ?_)
    · replace hw := hw.1 c51
      refine v_iload_n X 3 rfl (gD D_X12_itemIn_0 29 rfl) rfl ?_
      exact v_iret X hr hw (gD D_X12_itemIn_0 30 rfl)
    · replace hw := hw.2 c51
      refine v_iload_n X 3 rfl (gD D_X12_itemIn_0 8 rfl) rfl ?_
      refine v_aload_n X 0 rfl (gD D_X12_itemIn_0 9 rfl) rfl ?_
      refine v_getR X RX12 TX12 65 13 12 (by decide) rfl gin12 16 1216 RX12 (Or.inl rfl) 0 21 rfl rfl rfl (by decide) lk_fRX12_44 (gD D_X12_itemIn_0 10 rfl) (fun o52 eo52 => ?_)
      replace hw := hw o52 eo52
      refine v_iload X 4 rfl (gD D_X12_itemIn_0 11 rfl) ?_
      obtain ⟨a53, rfl, hw⟩ := hw
      obtain ⟨h54, hw⟩ := hw
      refine v_iald X 0 rfl (by decide) h54 (gD D_X12_itemIn_0 12 rfl) ?_
      refine v_iload_n X 2 rfl (gD D_X12_itemIn_0 13 rfl) rfl ?_
      refine v_icmp_ne X 41 (gD D_X12_itemIn_0 14 rfl) (by decide) (fun c55 => ?_) (fun c55 => ?_)
      · replace hw := hw.1 c55
        refine v_iconst X 0 (gD D_X12_itemIn_0 24 rfl) (by decide) ?_
        refine v_iadd X (gD D_X12_itemIn_0 25 rfl) ?_
        refine v_topi (fun x56 ex56 => ?_)
        replace hw := hw x56 ex56
        refine v_istore_n X [(3, .int x56), (0, va_rf (some a0)), (1, .int x1), (2, .int x2), (4, .int x4)] (gD D_X12_itemIn_0 26 rfl) rfl (by decide) rfl ?_
        refine v_iinc X (x4 + 1) 4 rfl [(4, .int (x4 + 1)), (3, .int x56), (0, va_rf (some a0)), (1, .int x1), (2, .int x2)] (gD D_X12_itemIn_0 27 rfl) rfl (by decide) rfl ?_
        refine v_goto X 5 (gD D_X12_itemIn_0 28 rfl) (by decide) ?_
        exact v_sub [1] [2, 3, 4, 1, 0] rfl rfl (ih a0 x1 x2 x56 (x4 + 1) σ hw)
      · replace hw := hw.2 c55
        refine v_aload_n X 0 rfl (gD D_X12_itemIn_0 15 rfl) rfl ?_
        refine v_getR X RX12 TX12 65 13 12 (by decide) rfl gin12 19 1219 RX12 (Or.inl rfl) 1 21 rfl rfl rfl (by decide) lk_fRX12_53 (gD D_X12_itemIn_0 16 rfl) (fun o57 eo57 => ?_)
        replace hw := hw o57 eo57
        refine v_bipush X 12 (gD D_X12_itemIn_0 17 rfl) (by decide) ?_
        refine v_iload_n X 1 rfl (gD D_X12_itemIn_0 18 rfl) rfl ?_
        refine v_imul X (gD D_X12_itemIn_0 19 rfl) ?_
        refine v_iload X 4 rfl (gD D_X12_itemIn_0 20 rfl) ?_
        refine v_iadd X (gD D_X12_itemIn_0 21 rfl) ?_
        obtain ⟨a58, rfl, hw⟩ := hw
        obtain ⟨h59, hw⟩ := hw
        refine v_iald X 0 rfl (by decide) h59 (gD D_X12_itemIn_0 22 rfl) ?_
        refine v_goto X 42 (gD D_X12_itemIn_0 23 rfl) (by decide) ?_
        refine v_iadd X (gD D_X12_itemIn_0 25 rfl) ?_
        refine v_topi (fun x60 ex60 => ?_)
        replace hw := hw x60 ex60
        refine v_istore_n X [(3, .int x60), (0, va_rf (some a0)), (1, .int x1), (2, .int x2), (4, .int x4)] (gD D_X12_itemIn_0 26 rfl) rfl (by decide) rfl ?_
        refine v_iinc X (x4 + 1) 4 rfl [(4, .int (x4 + 1)), (3, .int x60), (0, va_rf (some a0)), (1, .int x1), (2, .int x2)] (gD D_X12_itemIn_0 27 rfl) rfl (by decide) rfl ?_
        refine v_goto X 5 (gD D_X12_itemIn_0 28 rfl) (by decide) ?_
        exact v_sub [2] [2, 3, 4, 1, 0] rfl rfl (ih a0 x1 x2 x60 (x4 + 1) σ hw)
set_option maxRecDepth 100000 in
set_option maxHeartbeats 4000000 in
theorem c_X12_itemIn {l : Launch} {G : GX} (htr : l.stackTraces = false) {σ : St} {a0 : Nat} {x1 : Int32} {x2 : Int32} {Q : Int32 → St → Prop} (ht : tvOk σ [(some a0, 13)]) (hw : w_X12_itemIn a0 x1 x2 σ Q) : MI l G 2 σ yX12_itemIn cX12_itemIn 5 (some .int) 0 0 0 [va_rf (some a0), .int x1, .int x2] Q := by
  unfold w_X12_itemIn at hw
  refine m_start RX12 (by decide) htr ht (Nat.le_of_ble_eq_true rfl) rfl (lv := [(0, va_rf (some a0)), (1, .int x1), (2, .int x2)]) (d := 2) (fun p e s m args below meth c X hr hin => ?_)
  refine v_iconst X 0 (gD D_X12_itemIn_0 0 rfl) (by decide) ?_
  refine v_istore_n X [(3, .int 0), (0, va_rf (some a0)), (1, .int x1), (2, .int x2)] (gD D_X12_itemIn_0 1 rfl) rfl (by decide) rfl ?_
  refine v_iconst X 0 (gD D_X12_itemIn_0 2 rfl) (by decide) ?_
  refine v_istore X [(4, .int 0), (3, .int 0), (0, va_rf (some a0)), (1, .int x1), (2, .int x2)] (gD D_X12_itemIn_0 3 rfl) (by decide) rfl ?_
  obtain ⟨f61, hw⟩ := hw
  exact v_sub [0] [2, 3, 4, 1, 0] rfl rfl (t_X12_itemIn_5 X hr hin htr  f61 a0 x1 x2 0 0 σ hw)
set_option maxRecDepth 100000 in
set_option maxHeartbeats 4000000 in
theorem t_X12_lacking_16 {p : Program} {l : Launch} {e : Env} {s : State} {m : MethodId} {args : Array Value} {below : List Frame} {meth : Method} {c : Code} {G : GX} {σ0 : St} {mc ms : Nat} {Q : Int32 → St → Prop} (X : VC p l (rmD 0 mc ms) s m args meth c G 0 mc ms 4 RX12 cX12_lacking) (hr : meth.sig.returnType = (some .int)) (hin : meth.name = yX12_lacking.name) (htr : l.stackTraces = false) : ∀ (f : Nat) (a0 : Nat) (x1 : Int32) (x2 : Int32) (x3 : Int32) (σ : St), w_X12_lacking_16 Q  f a0 x1 x2 x3 σ → V p l e (rmD 0 mc ms) s m args below meth c (MQ below (va_Qi Q (gB G 2 σ0) (GA G)) args s mc ms (GA G)) G 2 σ0 mc ms 4 σ 0 0 [(some a0, 13)] 16 [(0, va_rf (some a0)), (1, .int x1), (2, .int x2), (3, .int x3)] [] := by
  intro f
  induction f with
  | zero => intro a0 x1 x2 x3 σ hw; exact hw.elim
  | succ f ih =>
    intro a0 x1 x2 x3 σ hw
    unfold w_X12_lacking_16 at hw
    refine v_iload_n X 3 rfl (gD D_X12_lacking_0 12 rfl) rfl ?_
    refine v_aload_n X 0 rfl (gD D_X12_lacking_0 13 rfl) rfl ?_
    refine v_getI X RX12 TX12 65 13 12 (by decide) rfl gin12 39 1239 RX12 (Or.inl rfl) 0 rfl rfl (by decide) lk_fRX12_203 (gD D_X12_lacking_0 14 rfl) ?_
    refine v_icmp_ge X 53 (gD D_X12_lacking_0 15 rfl) (by decide) (fun c58 => ?_) (fun c58 => ?_)
    · replace hw := hw.1 c58
      refine v_iload_n X 2 rfl (gD D_X12_lacking_0 33 rfl) rfl ?_
      exact v_iret X hr hw (gD D_X12_lacking_0 34 rfl)
    · replace hw := hw.2 c58
      refine v_iload_n X 2 rfl (gD D_X12_lacking_0 16 rfl) rfl ?_
      refine v_aload_n X 0 rfl (gD D_X12_lacking_0 17 rfl) rfl ?_
      refine v_getR X RX12 TX12 65 13 12 (by decide) rfl gin12 40 1240 RX12 (Or.inl rfl) 0 21 rfl rfl rfl (by decide) lk_fRX12_107 (gD D_X12_lacking_0 18 rfl) (fun o59 eo59 => ?_)
      replace hw := hw o59 eo59
      refine v_iload_n X 3 rfl (gD D_X12_lacking_0 19 rfl) rfl ?_
      obtain ⟨a60, rfl, hw⟩ := hw
      obtain ⟨h61, hw⟩ := hw
      refine v_iald X 0 rfl (by decide) h61 (gD D_X12_lacking_0 20 rfl) ?_
      refine v_iload_n X 1 rfl (gD D_X12_lacking_0 21 rfl) rfl ?_
      refine v_icmp_ne X 44 (gD D_X12_lacking_0 22 rfl) (by decide) (fun c62 => ?_) (fun c62 => ?_)
      · replace hw := hw.1 c62
        refine v_iconst X 0 (gD D_X12_lacking_0 28 rfl) (by decide) ?_
        refine v_isub X (gD D_X12_lacking_0 29 rfl) ?_
        refine v_topi (fun x63 ex63 => ?_)
        replace hw := hw x63 ex63
        refine v_istore_n X [(2, .int x63), (0, va_rf (some a0)), (1, .int x1), (3, .int x3)] (gD D_X12_lacking_0 30 rfl) rfl (by decide) rfl ?_
        refine v_iinc X (x3 + 1) 3 rfl [(3, .int (x3 + 1)), (2, .int x63), (0, va_rf (some a0)), (1, .int x1)] (gD D_X12_lacking_0 31 rfl) rfl (by decide) rfl ?_
        refine v_goto X 16 (gD D_X12_lacking_0 32 rfl) (by decide) ?_
        exact v_sub [1] [2, 3, 1, 0] rfl rfl (ih a0 x1 x63 (x3 + 1) σ hw)
      · replace hw := hw.2 c62
        refine v_aload_n X 0 rfl (gD D_X12_lacking_0 23 rfl) rfl ?_
        refine v_getR X RX12 TX12 65 13 12 (by decide) rfl gin12 43 1243 RX12 (Or.inl rfl) 1 21 rfl rfl rfl (by decide) lk_fRX12_116 (gD D_X12_lacking_0 24 rfl) (fun o64 eo64 => ?_)
        replace hw := hw o64 eo64
        refine v_iload_n X 3 rfl (gD D_X12_lacking_0 25 rfl) rfl ?_
        obtain ⟨a65, rfl, hw⟩ := hw
        obtain ⟨h66, hw⟩ := hw
        refine v_iald X 0 rfl (by decide) h66 (gD D_X12_lacking_0 26 rfl) ?_
        refine v_goto X 45 (gD D_X12_lacking_0 27 rfl) (by decide) ?_
        refine v_isub X (gD D_X12_lacking_0 29 rfl) ?_
        refine v_topi (fun x67 ex67 => ?_)
        replace hw := hw x67 ex67
        refine v_istore_n X [(2, .int x67), (0, va_rf (some a0)), (1, .int x1), (3, .int x3)] (gD D_X12_lacking_0 30 rfl) rfl (by decide) rfl ?_
        refine v_iinc X (x3 + 1) 3 rfl [(3, .int (x3 + 1)), (2, .int x67), (0, va_rf (some a0)), (1, .int x1)] (gD D_X12_lacking_0 31 rfl) rfl (by decide) rfl ?_
        refine v_goto X 16 (gD D_X12_lacking_0 32 rfl) (by decide) ?_
        exact v_sub [2] [2, 3, 1, 0] rfl rfl (ih a0 x1 x67 (x3 + 1) σ hw)
set_option maxRecDepth 100000 in
set_option maxHeartbeats 4000000 in
theorem c_X12_lacking {l : Launch} {G : GX} (htr : l.stackTraces = false) {σ : St} {a0 : Nat} {x1 : Int32} {Q : Int32 → St → Prop} (ht : tvOk σ [(some a0, 13)]) (hw : w_X12_lacking a0 x1 σ Q) : MI l G 2 σ yX12_lacking cX12_lacking 4 (some .int) 0 0 0 [va_rf (some a0), .int x1] Q := by
  unfold w_X12_lacking at hw
  refine m_start RX12 (by decide) htr ht (Nat.le_of_ble_eq_true rfl) rfl (lv := [(0, va_rf (some a0)), (1, .int x1)]) (d := 2) (fun p e s m args below meth c X hr hin => ?_)
  refine v_aload_n X 0 rfl (gD D_X12_lacking_0 0 rfl) rfl ?_
  refine v_getR X RX12 TX12 65 13 12 (by decide) rfl gin12 37 1237 RX12 (Or.inl rfl) 0 21 rfl rfl rfl (by decide) lk_fRX12_101 (gD D_X12_lacking_0 1 rfl) (fun o51 eo51 => ?_)
  replace hw := hw o51 eo51
  refine v_iload_n X 1 rfl (gD D_X12_lacking_0 2 rfl) rfl ?_
  obtain ⟨a52, rfl, hw⟩ := hw
  obtain ⟨h53, hw⟩ := hw
  refine v_iald X 0 rfl (by decide) h53 (gD D_X12_lacking_0 3 rfl) ?_
  refine v_aload_n X 0 rfl (gD D_X12_lacking_0 4 rfl) rfl ?_
  refine v_getR X RX12 TX12 65 13 12 (by decide) rfl gin12 38 1238 RX12 (Or.inl rfl) 1 21 rfl rfl rfl (by decide) lk_fRX12_104 (gD D_X12_lacking_0 5 rfl) (fun o54 eo54 => ?_)
  replace hw := hw o54 eo54
  refine v_iload_n X 1 rfl (gD D_X12_lacking_0 6 rfl) rfl ?_
  obtain ⟨a55, rfl, hw⟩ := hw
  obtain ⟨h56, hw⟩ := hw
  refine v_iald X 0 rfl (by decide) h56 (gD D_X12_lacking_0 7 rfl) ?_
  refine v_isub X (gD D_X12_lacking_0 8 rfl) ?_
  refine v_topi (fun x57 ex57 => ?_)
  replace hw := hw x57 ex57
  refine v_istore_n X [(2, .int x57), (0, va_rf (some a0)), (1, .int x1)] (gD D_X12_lacking_0 9 rfl) rfl (by decide) rfl ?_
  refine v_iconst X 0 (gD D_X12_lacking_0 10 rfl) (by decide) ?_
  refine v_istore_n X [(3, .int 0), (2, .int x57), (0, va_rf (some a0)), (1, .int x1)] (gD D_X12_lacking_0 11 rfl) rfl (by decide) rfl ?_
  obtain ⟨f68, hw⟩ := hw
  exact v_sub [2] [2, 3, 1, 0] rfl rfl (t_X12_lacking_16 X hr hin htr  f68 a0 x1 x57 0 σ hw)
set_option maxRecDepth 100000 in
set_option maxHeartbeats 4000000 in
theorem c_X12_less {l : Launch} {G : GX} (htr : l.stackTraces = false) {σ : St} {x0 : Int32} {x1 : Int32} {Q : Int32 → St → Prop} (ht : tvOk σ []) (hw : w_X12_less x0 x1 σ Q) : MI l G 2 σ yX12_less cX12_less 2 (some .int) 0 0 0 [.int x0, .int x1] Q := by
  unfold w_X12_less at hw
  refine m_start RX12 (by decide) htr ht (Nat.le_of_ble_eq_true rfl) rfl (lv := [(0, .int x0), (1, .int x1)]) (d := 2) (fun p e s m args below meth c X hr hin => ?_)
  refine v_iload_n X 0 rfl (gD D_X12_less_0 0 rfl) rfl ?_
  refine v_iload_n X 1 rfl (gD D_X12_less_0 1 rfl) rfl ?_
  refine v_icmp_ge X 9 (gD D_X12_less_0 2 rfl) (by decide) (fun c51 => ?_) (fun c51 => ?_)
  · replace hw := hw.1 c51
    refine v_iload_n X 1 rfl (gD D_X12_less_0 5 rfl) rfl ?_
    exact v_iret X hr hw (gD D_X12_less_0 6 rfl)
  · replace hw := hw.2 c51
    refine v_iload_n X 0 rfl (gD D_X12_less_0 3 rfl) rfl ?_
    refine v_goto X 10 (gD D_X12_less_0 4 rfl) (by decide) ?_
    exact v_iret X hr hw (gD D_X12_less_0 6 rfl)
set_option maxRecDepth 100000 in
set_option maxHeartbeats 4000000 in
theorem c_X12_makes {l : Launch} {G : GX} (htr : l.stackTraces = false) {σ : St} {a0 : Nat} {x1 : Int32} {x2 : Int32} {x3 : Int32} {x4 : Int32} {x5 : Int32} {x6 : Int32} {Q : Int32 → St → Prop} (ht : tvOk σ [(some a0, 13)]) (hw : w_X12_makes a0 x1 x2 x3 x4 x5 x6 σ Q) : MI l G 2 σ yX12_makes cX12_makes 7 (some .int) 0 0 0 [va_rf (some a0), .int x1, .int x2, .int x3, .int x4, .int x5, .int x6] Q := by
  unfold w_X12_makes at hw
  refine m_start RX12 (by decide) htr ht (Nat.le_of_ble_eq_true rfl) rfl (lv := [(0, va_rf (some a0)), (1, .int x1), (2, .int x2), (3, .int x3), (4, .int x4), (5, .int x5), (6, .int x6)]) (d := 2) (fun p e s m args below meth c X hr hin => ?_)
  refine v_aload_n X 0 rfl (gD D_X12_makes_0 0 rfl) rfl ?_
  refine v_getR X RX12 TX12 65 13 12 (by decide) rfl gin12 46 1246 RX12 (Or.inl rfl) 0 21 rfl rfl rfl (by decide) lk_fRX12_122 (gD D_X12_makes_0 1 rfl) (fun o51 eo51 => ?_)
  replace hw := hw o51 eo51
  refine v_aload_n X 0 rfl (gD D_X12_makes_0 2 rfl) rfl ?_
  refine v_getI X RX12 TX12 65 13 12 (by decide) rfl gin12 45 1245 RX12 (Or.inl rfl) 1 rfl rfl (by decide) lk_fRX12_196 (gD D_X12_makes_0 3 rfl) ?_
  refine v_iload_n X 1 rfl (gD D_X12_makes_0 4 rfl) rfl ?_
  obtain ⟨a52, rfl, hw⟩ := hw
  obtain ⟨h53, hw⟩ := hw
  refine v_iast X 0 rfl (by decide) (Or.inl rfl) h53 (gD D_X12_makes_0 5 rfl) (fun s54 es54 => ?_)
  replace hw := hw s54 es54
  refine v_aload_n X 0 rfl (gD D_X12_makes_0 6 rfl) rfl ?_
  refine v_getR X RX12 TX12 65 13 12 (by decide) rfl gin12 47 1247 RX12 (Or.inl rfl) 1 21 rfl rfl rfl (by decide) lk_fRX12_125 (gD D_X12_makes_0 7 rfl) (fun o55 eo55 => ?_)
  replace hw := hw o55 eo55
  refine v_aload_n X 0 rfl (gD D_X12_makes_0 8 rfl) rfl ?_
  refine v_getI X RX12 TX12 65 13 12 (by decide) rfl gin12 45 1245 RX12 (Or.inl rfl) 2 rfl rfl (by decide) lk_fRX12_196 (gD D_X12_makes_0 9 rfl) ?_
  refine v_iload_n X 2 rfl (gD D_X12_makes_0 10 rfl) rfl ?_
  obtain ⟨a56, rfl, hw⟩ := hw
  obtain ⟨h57, hw⟩ := hw
  refine v_iast X 0 rfl (by decide) (Or.inl rfl) h57 (gD D_X12_makes_0 11 rfl) (fun s58 es58 => ?_)
  replace hw := hw s58 es58
  refine v_aload_n X 0 rfl (gD D_X12_makes_0 12 rfl) rfl ?_
  refine v_getR X RX12 TX12 65 13 12 (by decide) rfl gin12 48 1248 RX12 (Or.inl rfl) 2 21 rfl rfl rfl (by decide) lk_fRX12_128 (gD D_X12_makes_0 13 rfl) (fun o59 eo59 => ?_)
  replace hw := hw o59 eo59
  refine v_aload_n X 0 rfl (gD D_X12_makes_0 14 rfl) rfl ?_
  refine v_getI X RX12 TX12 65 13 12 (by decide) rfl gin12 45 1245 RX12 (Or.inl rfl) 3 rfl rfl (by decide) lk_fRX12_196 (gD D_X12_makes_0 15 rfl) ?_
  refine v_iload_n X 3 rfl (gD D_X12_makes_0 16 rfl) rfl ?_
  obtain ⟨a60, rfl, hw⟩ := hw
  obtain ⟨h61, hw⟩ := hw
  refine v_iast X 0 rfl (by decide) (Or.inl rfl) h61 (gD D_X12_makes_0 17 rfl) (fun s62 es62 => ?_)
  replace hw := hw s62 es62
  refine v_aload_n X 0 rfl (gD D_X12_makes_0 18 rfl) rfl ?_
  refine v_getR X RX12 TX12 65 13 12 (by decide) rfl gin12 49 1249 RX12 (Or.inl rfl) 3 21 rfl rfl rfl (by decide) lk_fRX12_131 (gD D_X12_makes_0 19 rfl) (fun o63 eo63 => ?_)
  replace hw := hw o63 eo63
  refine v_aload_n X 0 rfl (gD D_X12_makes_0 20 rfl) rfl ?_
  refine v_getI X RX12 TX12 65 13 12 (by decide) rfl gin12 45 1245 RX12 (Or.inl rfl) 4 rfl rfl (by decide) lk_fRX12_196 (gD D_X12_makes_0 21 rfl) ?_
  refine v_iload X 4 rfl (gD D_X12_makes_0 22 rfl) ?_
  obtain ⟨a64, rfl, hw⟩ := hw
  obtain ⟨h65, hw⟩ := hw
  refine v_iast X 0 rfl (by decide) (Or.inl rfl) h65 (gD D_X12_makes_0 23 rfl) (fun s66 es66 => ?_)
  replace hw := hw s66 es66
  refine v_aload_n X 0 rfl (gD D_X12_makes_0 24 rfl) rfl ?_
  refine v_getR X RX12 TX12 65 13 12 (by decide) rfl gin12 50 1250 RX12 (Or.inl rfl) 4 21 rfl rfl rfl (by decide) lk_fRX12_134 (gD D_X12_makes_0 25 rfl) (fun o67 eo67 => ?_)
  replace hw := hw o67 eo67
  refine v_aload_n X 0 rfl (gD D_X12_makes_0 26 rfl) rfl ?_
  refine v_getI X RX12 TX12 65 13 12 (by decide) rfl gin12 45 1245 RX12 (Or.inl rfl) 5 rfl rfl (by decide) lk_fRX12_196 (gD D_X12_makes_0 27 rfl) ?_
  refine v_iload X 5 rfl (gD D_X12_makes_0 28 rfl) ?_
  obtain ⟨a68, rfl, hw⟩ := hw
  obtain ⟨h69, hw⟩ := hw
  refine v_iast X 0 rfl (by decide) (Or.inl rfl) h69 (gD D_X12_makes_0 29 rfl) (fun s70 es70 => ?_)
  replace hw := hw s70 es70
  refine v_aload_n X 0 rfl (gD D_X12_makes_0 30 rfl) rfl ?_
  refine v_getR X RX12 TX12 65 13 12 (by decide) rfl gin12 51 1251 RX12 (Or.inl rfl) 5 21 rfl rfl rfl (by decide) lk_fRX12_137 (gD D_X12_makes_0 31 rfl) (fun o71 eo71 => ?_)
  replace hw := hw o71 eo71
  refine v_aload_n X 0 rfl (gD D_X12_makes_0 32 rfl) rfl ?_
  refine v_getI X RX12 TX12 65 13 12 (by decide) rfl gin12 45 1245 RX12 (Or.inl rfl) 6 rfl rfl (by decide) lk_fRX12_196 (gD D_X12_makes_0 33 rfl) ?_
  refine v_iload X 6 rfl (gD D_X12_makes_0 34 rfl) ?_
  obtain ⟨a72, rfl, hw⟩ := hw
  obtain ⟨h73, hw⟩ := hw
  refine v_iast X 0 rfl (by decide) (Or.inl rfl) h73 (gD D_X12_makes_0 35 rfl) (fun s74 es74 => ?_)
  replace hw := hw s74 es74
  refine v_aload_n X 0 rfl (gD D_X12_makes_0 36 rfl) rfl ?_
  refine v_getR X RX12 TX12 65 13 12 (by decide) rfl gin12 52 1252 RX12 (Or.inl rfl) 6 21 rfl rfl rfl (by decide) lk_fRX12_140 (gD D_X12_makes_0 37 rfl) (fun o75 eo75 => ?_)
  replace hw := hw o75 eo75
  refine v_aload_n X 0 rfl (gD D_X12_makes_0 38 rfl) rfl ?_
  refine v_getI X RX12 TX12 65 13 12 (by decide) rfl gin12 45 1245 RX12 (Or.inl rfl) 7 rfl rfl (by decide) lk_fRX12_196 (gD D_X12_makes_0 39 rfl) ?_
  refine v_iconst X 0 (gD D_X12_makes_0 40 rfl) (by decide) ?_
  obtain ⟨a76, rfl, hw⟩ := hw
  obtain ⟨h77, hw⟩ := hw
  refine v_iast X 0 rfl (by decide) (Or.inl rfl) h77 (gD D_X12_makes_0 41 rfl) (fun s78 es78 => ?_)
  replace hw := hw s78 es78
  refine v_aload_n X 0 rfl (gD D_X12_makes_0 42 rfl) rfl ?_
  refine v_getR X RX12 TX12 65 13 12 (by decide) rfl gin12 53 1253 RX12 (Or.inl rfl) 7 21 rfl rfl rfl (by decide) lk_fRX12_143 (gD D_X12_makes_0 43 rfl) (fun o79 eo79 => ?_)
  replace hw := hw o79 eo79
  refine v_aload_n X 0 rfl (gD D_X12_makes_0 44 rfl) rfl ?_
  refine v_getI X RX12 TX12 65 13 12 (by decide) rfl gin12 45 1245 RX12 (Or.inl rfl) 8 rfl rfl (by decide) lk_fRX12_196 (gD D_X12_makes_0 45 rfl) ?_
  refine v_iconst X (-1) (gD D_X12_makes_0 46 rfl) (by decide) ?_
  obtain ⟨a80, rfl, hw⟩ := hw
  obtain ⟨h81, hw⟩ := hw
  refine v_iast X 0 rfl (by decide) (Or.inl rfl) h81 (gD D_X12_makes_0 47 rfl) (fun s82 es82 => ?_)
  replace hw := hw s82 es82
  refine v_aload_n X 0 rfl (gD D_X12_makes_0 48 rfl) rfl ?_
  refine v_getR X RX12 TX12 65 13 12 (by decide) rfl gin12 54 1254 RX12 (Or.inl rfl) 8 22 rfl rfl rfl (by decide) lk_fRX12_146 (gD D_X12_makes_0 49 rfl) (fun o83 eo83 => ?_)
  replace hw := hw o83 eo83
  refine v_aload_n X 0 rfl (gD D_X12_makes_0 50 rfl) rfl ?_
  refine v_getI X RX12 TX12 65 13 12 (by decide) rfl gin12 45 1245 RX12 (Or.inl rfl) 9 rfl rfl (by decide) lk_fRX12_196 (gD D_X12_makes_0 51 rfl) ?_
  refine v_iconst X 0 (gD D_X12_makes_0 52 rfl) (by decide) ?_
  obtain ⟨a84, rfl, hw⟩ := hw
  obtain ⟨h85, hw⟩ := hw
  refine v_zast X 0 rfl rfl (Or.inl rfl) h85 (by decide) (gD D_X12_makes_0 53 rfl) (fun s86 es86 => ?_)
  replace hw := hw s86 es86
  refine v_aload_n X 0 rfl (gD D_X12_makes_0 54 rfl) rfl ?_
  refine v_dup X (gD D_X12_makes_0 55 rfl) (rf_cat _) ?_
  refine v_getI X RX12 TX12 65 13 12 (by decide) rfl gin12 45 1245 RX12 (Or.inl rfl) 9 rfl rfl (by decide) lk_fRX12_196 (gD D_X12_makes_0 56 rfl) ?_
  refine v_iconst X 1 (gD D_X12_makes_0 57 rfl) (by decide) ?_
  refine v_iadd X (gD D_X12_makes_0 58 rfl) ?_
  refine v_putI X RX12 TX12 65 13 12 (by decide) rfl gin12 45 1245 tyX12 tyX12_ok nmX12 RX12 (Or.inl rfl) 9 rfl .int (int_fit _) rfl (by decide) (Or.inl rfl) lk_fRX12_196 rfl rfl (gD D_X12_makes_0 59 rfl) (fun s87 es87 => ?_)
  replace hw := hw s87 es87
  refine v_aload_n X 0 rfl (gD D_X12_makes_0 60 rfl) rfl ?_
  refine v_getI X RX12 TX12 65 13 12 (by decide) rfl gin12 45 1245 RX12 (Or.inl rfl) 9 rfl rfl (by decide) lk_fRX12_196 (gD D_X12_makes_0 61 rfl) ?_
  refine v_iconst X 1 (gD D_X12_makes_0 62 rfl) (by decide) ?_
  refine v_isub X (gD D_X12_makes_0 63 rfl) ?_
  exact v_iret X hr hw (gD D_X12_makes_0 64 rfl)
set_option maxRecDepth 100000 in
set_option maxHeartbeats 4000000 in
theorem t_X12_nextLot_95 {p : Program} {l : Launch} {e : Env} {s : State} {m : MethodId} {args : Array Value} {below : List Frame} {meth : Method} {c : Code} {G : GX} {σ0 : St} {mc ms : Nat} {Q : Int32 → St → Prop} (X : VC p l (rmD 0 mc ms) s m args meth c G 0 mc ms 7 RX12 cX12_nextLot) (hr : meth.sig.returnType = (some .int)) (hin : meth.name = yX12_nextLot.name) (htr : l.stackTraces = false) {K5 : Nat → Int32 → Int32 → Int32 → Int32 → St → Prop} (hK5 : ∀ (a0 : Nat) (x1 : Int32) (x2 : Int32) (x3 : Int32) (x4 : Int32) (σ : St), K5 a0 x1 x2 x3 x4 σ → V p l e (rmD 0 mc ms) s m args below meth c (MQ below (va_Qi Q (gB G 2 σ0) (GA G)) args s mc ms (GA G)) G 2 σ0 mc ms 7 σ 0 0 [(some a0, 13)] 5 [(0, va_rf (some a0)), (1, .int x1), (2, .int x2), (3, .int x3), (4, .int x4)] []) : ∀ (a0 : Nat) (x1 : Int32) (x2 : Int32) (x3 : Int32) (x4 : Int32) (xs0 : Int32) (σ : St), w_X12_nextLot_95 Q K5 a0 x1 x2 x3 x4 xs0 σ → V p l e (rmD 0 mc ms) s m args below meth c (MQ below (va_Qi Q (gB G 2 σ0) (GA G)) args s mc ms (GA G)) G 2 σ0 mc ms 7 σ 0 0 [(some a0, 13)] 95 [(0, va_rf (some a0)), (1, .int x1), (2, .int x2), (3, .int x3), (4, .int x4)] [.int xs0] := by
  intro a0 x1 x2 x3 x4 xs0 σ hw
  unfold w_X12_nextLot_95 at hw
  refine v_istore X [(6, .int xs0), (0, va_rf (some a0)), (1, .int x1), (2, .int x2), (3, .int x3), (4, .int x4)] (gD D_X12_nextLot_0 52 rfl) (by decide) rfl ?_
  refine v_iload X 0 rfl (gD D_X12_nextLot_0 53 rfl) ?_
  refine v_if_eq X 128 (gD D_X12_nextLot_0 54 rfl) (by decide) (fun c57 => ?_) (fun c57 => ?_)
  · replace hw := hw.1 c57
    refine v_iload_n X 4 rfl (gD D_X12_nextLot_0 69 rfl) rfl ?_
    refine v_istore_n X [(3, .int x3), (6, .int xs0), (0, va_rf (some a0)), (1, .int x1), (2, .int x2), (4, .int x4)] (gD D_X12_nextLot_0 70 rfl) rfl (by decide) rfl ?_
    refine v_iinc X (x4 + 1) 5 rfl [(4, .int (x4 + 1)), (3, .int x3), (6, .int xs0), (0, va_rf (some a0)), (1, .int x1), (2, .int x2)] (gD D_X12_nextLot_0 71 rfl) rfl (by decide) rfl ?_
    refine v_goto X 5 (gD D_X12_nextLot_0 72 rfl) (by decide) ?_
    exact v_sub [0] [3, 4, 5, 1, 0] rfl rfl (hK5 a0 x1 x2 x3 (x4 + 1) σ hw)
  · replace hw := hw.2 c57
    refine v_iload_n X 4 rfl (gD D_X12_nextLot_0 55 rfl) rfl ?_
    refine v_iconst X (-1) (gD D_X12_nextLot_0 56 rfl) (by decide) ?_
    refine v_icmp_eq X 123 (gD D_X12_nextLot_0 57 rfl) (by decide) (fun c58 => ?_) (fun c58 => ?_)
    · replace hw := hw.1 c58
      refine v_iload X 5 rfl (gD D_X12_nextLot_0 67 rfl) ?_
      refine v_goto X 129 (gD D_X12_nextLot_0 68 rfl) (by decide) ?_
      refine v_istore_n X [(3, .int x4), (6, .int xs0), (0, va_rf (some a0)), (1, .int x1), (2, .int x2), (4, .int x4)] (gD D_X12_nextLot_0 70 rfl) rfl (by decide) rfl ?_
      refine v_iinc X (x4 + 1) 5 rfl [(4, .int (x4 + 1)), (3, .int x4), (6, .int xs0), (0, va_rf (some a0)), (1, .int x1), (2, .int x2)] (gD D_X12_nextLot_0 71 rfl) rfl (by decide) rfl ?_
      refine v_goto X 5 (gD D_X12_nextLot_0 72 rfl) (by decide) ?_
      exact v_sub [0] [3, 4, 5, 1, 0] rfl rfl (hK5 a0 x1 x2 x4 (x4 + 1) σ hw)
    · replace hw := hw.2 c58
      refine v_aload_n X 1 rfl (gD D_X12_nextLot_0 58 rfl) rfl ?_
      refine v_getR X RX12 TX12 65 13 12 (by decide) rfl gin12 17 1217 RX12 (Or.inl rfl) 0 21 rfl rfl rfl (by decide) lk_fRX12_47 (gD D_X12_nextLot_0 59 rfl) (fun o59 eo59 => ?_)
      replace hw := hw o59 eo59
      refine v_iload X 5 rfl (gD D_X12_nextLot_0 60 rfl) ?_
      obtain ⟨a60, rfl, hw⟩ := hw
      obtain ⟨h61, hw⟩ := hw
      refine v_iald X 0 rfl (by decide) h61 (gD D_X12_nextLot_0 61 rfl) ?_
      refine v_aload_n X 1 rfl (gD D_X12_nextLot_0 62 rfl) rfl ?_
      refine v_getR X RX12 TX12 65 13 12 (by decide) rfl gin12 17 1217 RX12 (Or.inl rfl) 1 21 rfl rfl rfl (by decide) lk_fRX12_47 (gD D_X12_nextLot_0 63 rfl) (fun o62 eo62 => ?_)
      replace hw := hw o62 eo62
      refine v_iload_n X 4 rfl (gD D_X12_nextLot_0 64 rfl) rfl ?_
      obtain ⟨a63, rfl, hw⟩ := hw
      obtain ⟨h64, hw⟩ := hw
      refine v_iald X 0 rfl (by decide) h64 (gD D_X12_nextLot_0 65 rfl) ?_
      refine v_icmp_ge X 128 (gD D_X12_nextLot_0 66 rfl) (by decide) (fun c65 => ?_) (fun c65 => ?_)
      · replace hw := hw.1 c65
        refine v_iload_n X 4 rfl (gD D_X12_nextLot_0 69 rfl) rfl ?_
        refine v_istore_n X [(3, .int x3), (6, .int xs0), (0, va_rf (some a0)), (1, .int x1), (2, .int x2), (4, .int x4)] (gD D_X12_nextLot_0 70 rfl) rfl (by decide) rfl ?_
        refine v_iinc X (x4 + 1) 5 rfl [(4, .int (x4 + 1)), (3, .int x3), (6, .int xs0), (0, va_rf (some a0)), (1, .int x1), (2, .int x2)] (gD D_X12_nextLot_0 71 rfl) rfl (by decide) rfl ?_
        refine v_goto X 5 (gD D_X12_nextLot_0 72 rfl) (by decide) ?_
        exact v_sub [2] [3, 4, 5, 1, 0] rfl rfl (hK5 a0 x1 x2 x3 (x4 + 1) σ hw)
      · replace hw := hw.2 c65
        refine v_iload X 5 rfl (gD D_X12_nextLot_0 67 rfl) ?_
        refine v_goto X 129 (gD D_X12_nextLot_0 68 rfl) (by decide) ?_
        refine v_istore_n X [(3, .int x4), (6, .int xs0), (0, va_rf (some a0)), (1, .int x1), (2, .int x2), (4, .int x4)] (gD D_X12_nextLot_0 70 rfl) rfl (by decide) rfl ?_
        refine v_iinc X (x4 + 1) 5 rfl [(4, .int (x4 + 1)), (3, .int x4), (6, .int xs0), (0, va_rf (some a0)), (1, .int x1), (2, .int x2)] (gD D_X12_nextLot_0 71 rfl) rfl (by decide) rfl ?_
        refine v_goto X 5 (gD D_X12_nextLot_0 72 rfl) (by decide) ?_
        exact v_sub [2] [3, 4, 5, 1, 0] rfl rfl (hK5 a0 x1 x2 x4 (x4 + 1) σ hw)
set_option maxRecDepth 100000 in
set_option maxHeartbeats 4000000 in
theorem t_X12_nextLot_94 {p : Program} {l : Launch} {e : Env} {s : State} {m : MethodId} {args : Array Value} {below : List Frame} {meth : Method} {c : Code} {G : GX} {σ0 : St} {mc ms : Nat} {Q : Int32 → St → Prop} (X : VC p l (rmD 0 mc ms) s m args meth c G 0 mc ms 7 RX12 cX12_nextLot) (hr : meth.sig.returnType = (some .int)) (hin : meth.name = yX12_nextLot.name) (htr : l.stackTraces = false) {K5 : Nat → Int32 → Int32 → Int32 → Int32 → St → Prop} (hK5 : ∀ (a0 : Nat) (x1 : Int32) (x2 : Int32) (x3 : Int32) (x4 : Int32) (σ : St), K5 a0 x1 x2 x3 x4 σ → V p l e (rmD 0 mc ms) s m args below meth c (MQ below (va_Qi Q (gB G 2 σ0) (GA G)) args s mc ms (GA G)) G 2 σ0 mc ms 7 σ 0 0 [(some a0, 13)] 5 [(0, va_rf (some a0)), (1, .int x1), (2, .int x2), (3, .int x3), (4, .int x4)] []) : ∀ (a0 : Nat) (x1 : Int32) (x2 : Int32) (x3 : Int32) (x4 : Int32) (σ : St), w_X12_nextLot_94 Q K5 a0 x1 x2 x3 x4 σ → V p l e (rmD 0 mc ms) s m args below meth c (MQ below (va_Qi Q (gB G 2 σ0) (GA G)) args s mc ms (GA G)) G 2 σ0 mc ms 7 σ 0 0 [(some a0, 13)] 94 [(0, va_rf (some a0)), (1, .int x1), (2, .int x2), (3, .int x3), (4, .int x4)] [] := by
  intro a0 x1 x2 x3 x4 σ hw
  unfold w_X12_nextLot_94 at hw
  refine v_iconst X 0 (gD D_X12_nextLot_0 51 rfl) (by decide) ?_
  exact v_sub [0] [0, 1, 2, 3, 4] rfl rfl (t_X12_nextLot_95 X hr hin htr hK5 a0 x1 x2 x3 x4 0 σ hw)
set_option maxRecDepth 100000 in
set_option maxHeartbeats 4000000 in
theorem t_X12_nextLot_62 {p : Program} {l : Launch} {e : Env} {s : State} {m : MethodId} {args : Array Value} {below : List Frame} {meth : Method} {c : Code} {G : GX} {σ0 : St} {mc ms : Nat} {Q : Int32 → St → Prop} (X : VC p l (rmD 0 mc ms) s m args meth c G 0 mc ms 7 RX12 cX12_nextLot) (hr : meth.sig.returnType = (some .int)) (hin : meth.name = yX12_nextLot.name) (htr : l.stackTraces = false) {K5 : Nat → Int32 → Int32 → Int32 → Int32 → St → Prop} (hK5 : ∀ (a0 : Nat) (x1 : Int32) (x2 : Int32) (x3 : Int32) (x4 : Int32) (σ : St), K5 a0 x1 x2 x3 x4 σ → V p l e (rmD 0 mc ms) s m args below meth c (MQ below (va_Qi Q (gB G 2 σ0) (GA G)) args s mc ms (GA G)) G 2 σ0 mc ms 7 σ 0 0 [(some a0, 13)] 5 [(0, va_rf (some a0)), (1, .int x1), (2, .int x2), (3, .int x3), (4, .int x4)] []) : ∀ (a0 : Nat) (x1 : Int32) (x2 : Int32) (x3 : Int32) (x4 : Int32) (xs0 : Int32) (σ : St), w_X12_nextLot_62 Q K5 a0 x1 x2 x3 x4 xs0 σ → V p l e (rmD 0 mc ms) s m args below meth c (MQ below (va_Qi Q (gB G 2 σ0) (GA G)) args s mc ms (GA G)) G 2 σ0 mc ms 7 σ 0 0 [(some a0, 13)] 62 [(0, va_rf (some a0)), (1, .int x1), (2, .int x2), (3, .int x3), (4, .int x4)] [.int xs0] := by
  intro a0 x1 x2 x3 x4 xs0 σ hw
  unfold w_X12_nextLot_62 at hw
  refine v_istore X [(5, .int xs0), (0, va_rf (some a0)), (1, .int x1), (2, .int x2), (3, .int x3), (4, .int x4)] (gD D_X12_nextLot_0 35 rfl) (by decide) rfl ?_
  refine v_aload_n X 1 rfl (gD D_X12_nextLot_0 36 rfl) rfl ?_
  refine v_getR X RX12 TX12 65 13 12 (by decide) rfl gin12 16 1216 RX12 (Or.inl rfl) 0 21 rfl rfl rfl (by decide) lk_fRX12_44 (gD D_X12_nextLot_0 37 rfl) (fun o53 eo53 => ?_)
  replace hw := hw o53 eo53
  refine v_iload X 5 rfl (gD D_X12_nextLot_0 38 rfl) ?_
  obtain ⟨a54, rfl, hw⟩ := hw
  obtain ⟨h55, hw⟩ := hw
  refine v_iald X 0 rfl (by decide) h55 (gD D_X12_nextLot_0 39 rfl) ?_
  refine v_iload_n X 2 rfl (gD D_X12_nextLot_0 40 rfl) rfl ?_
  refine v_icmp_ne X 94 (gD D_X12_nextLot_0 41 rfl) (by decide) (fun c56 => ?_) (fun c56 => ?_)
  · replace hw := hw.1 c56
    exact v_sub [1] [1, 2, 3, 4, 5] rfl rfl (t_X12_nextLot_94 X hr hin htr hK5 a0 x1 x2 x3 x4 σ hw)
  · replace hw := hw.2 c56
    refine v_aload_n X 1 rfl (gD D_X12_nextLot_0 42 rfl) rfl ?_
    refine v_getR X RX12 TX12 65 13 12 (by decide) rfl gin12 18 1218 RX12 (Or.inl rfl) 1 22 rfl rfl rfl (by decide) lk_fRX12_50 (gD D_X12_nextLot_0 43 rfl) (fun o66 eo66 => ?_)
    replace hw := hw o66 eo66
    refine v_iload X 5 rfl (gD D_X12_nextLot_0 44 rfl) ?_
    obtain ⟨a67, rfl, hw⟩ := hw
    obtain ⟨h68, hw⟩ := hw
    refine v_zald X 0 rfl rfl h68 (gD D_X12_nextLot_0 45 rfl) ?_
    refine v_if_ne X 94 (gD D_X12_nextLot_0 46 rfl) (by decide) (fun c69 => ?_) (fun c69 => ?_)
    · replace hw := hw.1 c69
      exact v_sub [2] [1, 2, 3, 4, 5] rfl rfl (t_X12_nextLot_94 X hr hin htr hK5 a0 x1 x2 x3 x4 σ hw)
    · replace hw := hw.2 c69
      refine v_iload X 0 rfl (gD D_X12_nextLot_0 47 rfl) ?_
      refine v_if_eq X 94 (gD D_X12_nextLot_0 48 rfl) (by decide) (fun c70 => ?_) (fun c70 => ?_)
      · replace hw := hw.1 c70
        exact v_sub [2] [1, 2, 3, 4, 5] rfl rfl (t_X12_nextLot_94 X hr hin htr hK5 a0 x1 x2 x3 x4 σ hw)
      · replace hw := hw.2 c70
        refine v_iconst X 1 (gD D_X12_nextLot_0 49 rfl) (by decide) ?_
        refine v_goto X 95 (gD D_X12_nextLot_0 50 rfl) (by decide) ?_
        exact v_sub [2] [1, 2, 3, 4, 5] rfl rfl (t_X12_nextLot_95 X hr hin htr hK5 a0 x1 x2 x3 x4 1 σ hw)
set_option maxRecDepth 100000 in
set_option maxHeartbeats 4000000 in
theorem t_X12_nextLot_61 {p : Program} {l : Launch} {e : Env} {s : State} {m : MethodId} {args : Array Value} {below : List Frame} {meth : Method} {c : Code} {G : GX} {σ0 : St} {mc ms : Nat} {Q : Int32 → St → Prop} (X : VC p l (rmD 0 mc ms) s m args meth c G 0 mc ms 7 RX12 cX12_nextLot) (hr : meth.sig.returnType = (some .int)) (hin : meth.name = yX12_nextLot.name) (htr : l.stackTraces = false) {K5 : Nat → Int32 → Int32 → Int32 → Int32 → St → Prop} (hK5 : ∀ (a0 : Nat) (x1 : Int32) (x2 : Int32) (x3 : Int32) (x4 : Int32) (σ : St), K5 a0 x1 x2 x3 x4 σ → V p l e (rmD 0 mc ms) s m args below meth c (MQ below (va_Qi Q (gB G 2 σ0) (GA G)) args s mc ms (GA G)) G 2 σ0 mc ms 7 σ 0 0 [(some a0, 13)] 5 [(0, va_rf (some a0)), (1, .int x1), (2, .int x2), (3, .int x3), (4, .int x4)] []) : ∀ (a0 : Nat) (x1 : Int32) (x2 : Int32) (x3 : Int32) (x4 : Int32) (σ : St), w_X12_nextLot_61 Q K5 a0 x1 x2 x3 x4 σ → V p l e (rmD 0 mc ms) s m args below meth c (MQ below (va_Qi Q (gB G 2 σ0) (GA G)) args s mc ms (GA G)) G 2 σ0 mc ms 7 σ 0 0 [(some a0, 13)] 61 [(0, va_rf (some a0)), (1, .int x1), (2, .int x2), (3, .int x3), (4, .int x4)] [] := by
  intro a0 x1 x2 x3 x4 σ hw
  unfold w_X12_nextLot_61 at hw
  refine v_iconst X 0 (gD D_X12_nextLot_0 34 rfl) (by decide) ?_
  exact v_sub [0] [0, 1, 2, 3, 4] rfl rfl (t_X12_nextLot_62 X hr hin htr hK5 a0 x1 x2 x3 x4 0 σ hw)
set_option maxRecDepth 100000 in
set_option maxHeartbeats 4000000 in
theorem t_X12_nextLot_5 {p : Program} {l : Launch} {e : Env} {s : State} {m : MethodId} {args : Array Value} {below : List Frame} {meth : Method} {c : Code} {G : GX} {σ0 : St} {mc ms : Nat} {Q : Int32 → St → Prop} (X : VC p l (rmD 0 mc ms) s m args meth c G 0 mc ms 7 RX12 cX12_nextLot) (hr : meth.sig.returnType = (some .int)) (hin : meth.name = yX12_nextLot.name) (htr : l.stackTraces = false) : ∀ (f : Nat) (a0 : Nat) (x1 : Int32) (x2 : Int32) (x3 : Int32) (x4 : Int32) (σ : St), w_X12_nextLot_5 Q  f a0 x1 x2 x3 x4 σ → V p l e (rmD 0 mc ms) s m args below meth c (MQ below (va_Qi Q (gB G 2 σ0) (GA G)) args s mc ms (GA G)) G 2 σ0 mc ms 7 σ 0 0 [(some a0, 13)] 5 [(0, va_rf (some a0)), (1, .int x1), (2, .int x2), (3, .int x3), (4, .int x4)] [] := by
  intro f
  induction f with
  | zero => intro a0 x1 x2 x3 x4 σ hw; exact hw.elim
  | succ f ih =>
    intro a0 x1 x2 x3 x4 σ hw
    unfold w_X12_nextLot_5 at hw
    refine v_iload X 4 rfl (gD D_X12_nextLot_0 4 rfl) ?_
    refine v_aload_n X 0 rfl (gD D_X12_nextLot_0 5 rfl) rfl ?_
    refine v_getI X RX12 TX12 65 13 12 (by decide) rfl gin12 15 1215 RX12 (Or.inl rfl) 0 rfl rfl (by decide) lk_fRX12_187 (gD D_X12_nextLot_0 6 rfl) ?_
    refine v_icmp_ge X 136 (gD D_X12_nextLot_0 7 rfl) (by decide) (fun c51 => ?_) (fun c51 => ?_)
    · replace hw := hw.1 c51
      refine v_iload_n X 3 rfl (gD D_X12_nextLot_0 73 rfl) rfl ?_
      exact v_iret X hr hw (gD D_X12_nextLot_0 74 rfl)
    · replace hw := hw.2 c51
      refine v_iload_n X 2 rfl (gD D_X12_nextLot_0 8 rfl) rfl ?_
      refine v_iconst X (-1) (gD D_X12_nextLot_0 9 rfl) (by decide) ?_
      refine v_icmp_eq X 57 (gD D_X12_nextLot_0 10 rfl) (by decide) (fun c52 => ?_) (fun c52 => ?_)
      · replace hw := hw.1 c52
        refine v_iconst X 1 (gD D_X12_nextLot_0 32 rfl) (by decide) ?_
        refine v_goto X 62 (gD D_X12_nextLot_0 33 rfl) (by decide) ?_
        exact v_sub [0] [0, 1, 2, 3, 4] rfl rfl (t_X12_nextLot_62 X hr hin htr ih a0 x1 x2 x3 x4 1 σ hw)
      · replace hw := hw.2 c52
        refine v_aload_n X 0 rfl (gD D_X12_nextLot_0 11 rfl) rfl ?_
        refine v_getR X RX12 TX12 65 13 12 (by decide) rfl gin12 17 1217 RX12 (Or.inl rfl) 0 21 rfl rfl rfl (by decide) lk_fRX12_47 (gD D_X12_nextLot_0 12 rfl) (fun o71 eo71 => ?_)
        replace hw := hw o71 eo71
        refine v_iload X 4 rfl (gD D_X12_nextLot_0 13 rfl) ?_
        obtain ⟨a72, rfl, hw⟩ := hw
        obtain ⟨h73, hw⟩ := hw
        refine v_iald X 0 rfl (by decide) h73 (gD D_X12_nextLot_0 14 rfl) ?_
        refine v_aload_n X 0 rfl (gD D_X12_nextLot_0 15 rfl) rfl ?_
        refine v_getR X RX12 TX12 65 13 12 (by decide) rfl gin12 17 1217 RX12 (Or.inl rfl) 1 21 rfl rfl rfl (by decide) lk_fRX12_47 (gD D_X12_nextLot_0 16 rfl) (fun o74 eo74 => ?_)
        replace hw := hw o74 eo74
        refine v_iload_n X 2 rfl (gD D_X12_nextLot_0 17 rfl) rfl ?_
        obtain ⟨a75, rfl, hw⟩ := hw
        obtain ⟨h76, hw⟩ := hw
        refine v_iald X 0 rfl (by decide) h76 (gD D_X12_nextLot_0 18 rfl) ?_
        refine v_icmp_gt X 57 (gD D_X12_nextLot_0 19 rfl) (by decide) (fun c77 => ?_) (fun c77 => ?_)
        · replace hw := hw.1 c77
          refine v_iconst X 1 (gD D_X12_nextLot_0 32 rfl) (by decide) ?_
          refine v_goto X 62 (gD D_X12_nextLot_0 33 rfl) (by decide) ?_
          exact v_sub [2] [0, 1, 2, 3, 4] rfl rfl (t_X12_nextLot_62 X hr hin htr ih a0 x1 x2 x3 x4 1 σ hw)
        · replace hw := hw.2 c77
          refine v_aload_n X 0 rfl (gD D_X12_nextLot_0 20 rfl) rfl ?_
          refine v_getR X RX12 TX12 65 13 12 (by decide) rfl gin12 17 1217 RX12 (Or.inl rfl) 2 21 rfl rfl rfl (by decide) lk_fRX12_47 (gD D_X12_nextLot_0 21 rfl) (fun o78 eo78 => ?_)
          replace hw := hw o78 eo78
          refine v_iload X 4 rfl (gD D_X12_nextLot_0 22 rfl) ?_
          obtain ⟨a79, rfl, hw⟩ := hw
          obtain ⟨h80, hw⟩ := hw
          refine v_iald X 0 rfl (by decide) h80 (gD D_X12_nextLot_0 23 rfl) ?_
          refine v_aload_n X 0 rfl (gD D_X12_nextLot_0 24 rfl) rfl ?_
          refine v_getR X RX12 TX12 65 13 12 (by decide) rfl gin12 17 1217 RX12 (Or.inl rfl) 3 21 rfl rfl rfl (by decide) lk_fRX12_47 (gD D_X12_nextLot_0 25 rfl) (fun o81 eo81 => ?_)
          replace hw := hw o81 eo81
          refine v_iload_n X 2 rfl (gD D_X12_nextLot_0 26 rfl) rfl ?_
          obtain ⟨a82, rfl, hw⟩ := hw
          obtain ⟨h83, hw⟩ := hw
          refine v_iald X 0 rfl (by decide) h83 (gD D_X12_nextLot_0 27 rfl) ?_
          refine v_icmp_ne X 61 (gD D_X12_nextLot_0 28 rfl) (by decide) (fun c84 => ?_) (fun c84 => ?_)
          · replace hw := hw.1 c84
            exact v_sub [4] [0, 1, 2, 3, 4] rfl rfl (t_X12_nextLot_61 X hr hin htr ih a0 x1 x2 x3 x4 σ hw)
          · replace hw := hw.2 c84
            refine v_iload X 4 rfl (gD D_X12_nextLot_0 29 rfl) ?_
            refine v_iload_n X 2 rfl (gD D_X12_nextLot_0 30 rfl) rfl ?_
            refine v_icmp_le X 61 (gD D_X12_nextLot_0 31 rfl) (by decide) (fun c85 => ?_) (fun c85 => ?_)
            · replace hw := hw.1 c85
              exact v_sub [4] [0, 1, 2, 3, 4] rfl rfl (t_X12_nextLot_61 X hr hin htr ih a0 x1 x2 x3 x4 σ hw)
            · replace hw := hw.2 c85
              refine v_iconst X 1 (gD D_X12_nextLot_0 32 rfl) (by decide) ?_
              refine v_goto X 62 (gD D_X12_nextLot_0 33 rfl) (by decide) ?_
              exact v_sub [4] [0, 1, 2, 3, 4] rfl rfl (t_X12_nextLot_62 X hr hin htr ih a0 x1 x2 x3 x4 1 σ hw)
set_option maxRecDepth 100000 in
set_option maxHeartbeats 4000000 in
theorem c_X12_nextLot {l : Launch} {G : GX} (htr : l.stackTraces = false) {σ : St} {a0 : Nat} {x1 : Int32} {x2 : Int32} {Q : Int32 → St → Prop} (ht : tvOk σ [(some a0, 13)]) (hw : w_X12_nextLot a0 x1 x2 σ Q) : MI l G 2 σ yX12_nextLot cX12_nextLot 7 (some .int) 0 0 0 [va_rf (some a0), .int x1, .int x2] Q := by
  unfold w_X12_nextLot at hw
  refine m_start RX12 (by decide) htr ht (Nat.le_of_ble_eq_true rfl) rfl (lv := [(0, va_rf (some a0)), (1, .int x1), (2, .int x2)]) (d := 2) (fun p e s m args below meth c X hr hin => ?_)
  refine v_iconst X (-1) (gD D_X12_nextLot_0 0 rfl) (by decide) ?_
  refine v_istore_n X [(3, .int (-1)), (0, va_rf (some a0)), (1, .int x1), (2, .int x2)] (gD D_X12_nextLot_0 1 rfl) rfl (by decide) rfl ?_
  refine v_iconst X 0 (gD D_X12_nextLot_0 2 rfl) (by decide) ?_
  refine v_istore X [(4, .int 0), (3, .int (-1)), (0, va_rf (some a0)), (1, .int x1), (2, .int x2)] (gD D_X12_nextLot_0 3 rfl) (by decide) rfl ?_
  obtain ⟨f86, hw⟩ := hw
  exact v_sub [0] [2, 3, 4, 1, 0] rfl rfl (t_X12_nextLot_5 X hr hin htr  f86 a0 x1 x2 (-1) 0 σ hw)
set_option maxRecDepth 100000 in
set_option maxHeartbeats 4000000 in
theorem t_X12_nextOf_4 {p : Program} {l : Launch} {e : Env} {s : State} {m : MethodId} {args : Array Value} {below : List Frame} {meth : Method} {c : Code} {G : GX} {σ0 : St} {mc ms : Nat} {Q : Int32 → St → Prop} (X : VC p l (rmD 0 mc ms) s m args meth c G 0 mc ms 4 RX12 cX12_nextOf) (hr : meth.sig.returnType = (some .int)) (hin : meth.name = yX12_nextOf.name) (htr : l.stackTraces = false) : ∀ (f : Nat) (a0 : Nat) (x1 : Int32) (x2 : Int32) (x3 : Int32) (σ : St), w_X12_nextOf_4 Q  f a0 x1 x2 x3 σ → V p l e (rmD 0 mc ms) s m args below meth c (MQ below (va_Qi Q (gB G 2 σ0) (GA G)) args s mc ms (GA G)) G 2 σ0 mc ms 4 σ 0 0 [(some a0, 13)] 4 [(0, va_rf (some a0)), (1, .int x1), (2, .int x2), (3, .int x3)] [] := by
  intro f
  induction f with
  | zero => intro a0 x1 x2 x3 σ hw; exact hw.elim
  | succ f ih =>
    intro a0 x1 x2 x3 σ hw
    unfold w_X12_nextOf_4 at hw
    refine v_iload_n X 3 rfl (gD D_X12_nextOf_0 4 rfl) rfl ?_
    refine v_iconst X 3 (gD D_X12_nextOf_0 5 rfl) (by decide) ?_
    refine v_icmp_ge X 46 (gD D_X12_nextOf_0 6 rfl) (by decide) (fun c51 => ?_) (fun c51 => ?_)
    · replace hw := hw.1 c51
      refine v_iload_n X 2 rfl (gD D_X12_nextOf_0 28 rfl) rfl ?_
      exact v_iret X hr hw (gD D_X12_nextOf_0 29 rfl)
    · replace hw := hw.2 c51
      refine v_aload_n X 0 rfl (gD D_X12_nextOf_0 7 rfl) rfl ?_
      refine v_getR X RX12 TX12 65 13 12 (by decide) rfl gin12 57 1257 RX12 (Or.inl rfl) 0 21 rfl rfl rfl (by decide) lk_fRX12_155 (gD D_X12_nextOf_0 8 rfl) (fun o52 eo52 => ?_)
      replace hw := hw o52 eo52
      refine v_iload_n X 1 rfl (gD D_X12_nextOf_0 9 rfl) rfl ?_
      obtain ⟨a53, rfl, hw⟩ := hw
      obtain ⟨h54, hw⟩ := hw
      refine v_iald X 0 rfl (by decide) h54 (gD D_X12_nextOf_0 10 rfl) ?_
      refine v_iconst X (-1) (gD D_X12_nextOf_0 11 rfl) (by decide) ?_
      refine v_icmp_eq X 38 (gD D_X12_nextOf_0 12 rfl) (by decide) (fun c55 => ?_) (fun c55 => ?_)
      · replace hw := hw.1 c55
        refine v_iload_n X 2 rfl (gD D_X12_nextOf_0 24 rfl) rfl ?_
        refine v_istore_n X [(2, .int x2), (0, va_rf (some a0)), (1, .int x1), (3, .int x3)] (gD D_X12_nextOf_0 25 rfl) rfl (by decide) rfl ?_
        refine v_iinc X (x3 + 1) 3 rfl [(3, .int (x3 + 1)), (2, .int x2), (0, va_rf (some a0)), (1, .int x1)] (gD D_X12_nextOf_0 26 rfl) rfl (by decide) rfl ?_
        refine v_goto X 4 (gD D_X12_nextOf_0 27 rfl) (by decide) ?_
        exact v_sub [1] [2, 3, 1, 0] rfl rfl (ih a0 x1 x2 (x3 + 1) σ hw)
      · replace hw := hw.2 c55
        refine v_aload_n X 0 rfl (gD D_X12_nextOf_0 13 rfl) rfl ?_
        refine v_getR X RX12 TX12 65 13 12 (by decide) rfl gin12 55 1255 RX12 (Or.inl rfl) 1 21 rfl rfl rfl (by decide) lk_fRX12_149 (gD D_X12_nextOf_0 14 rfl) (fun o56 eo56 => ?_)
        replace hw := hw o56 eo56
        refine v_iload_n X 3 rfl (gD D_X12_nextOf_0 15 rfl) rfl ?_
        obtain ⟨a57, rfl, hw⟩ := hw
        obtain ⟨h58, hw⟩ := hw
        refine v_iald X 0 rfl (by decide) h58 (gD D_X12_nextOf_0 16 rfl) ?_
        refine v_aload_n X 0 rfl (gD D_X12_nextOf_0 17 rfl) rfl ?_
        refine v_getR X RX12 TX12 65 13 12 (by decide) rfl gin12 57 1257 RX12 (Or.inl rfl) 2 21 rfl rfl rfl (by decide) lk_fRX12_155 (gD D_X12_nextOf_0 18 rfl) (fun o59 eo59 => ?_)
        replace hw := hw o59 eo59
        refine v_iload_n X 1 rfl (gD D_X12_nextOf_0 19 rfl) rfl ?_
        obtain ⟨a60, rfl, hw⟩ := hw
        obtain ⟨h61, hw⟩ := hw
        refine v_iald X 0 rfl (by decide) h61 (gD D_X12_nextOf_0 20 rfl) ?_
        refine v_icmp_ne X 38 (gD D_X12_nextOf_0 21 rfl) (by decide) (fun c62 => ?_) (fun c62 => ?_)
        · replace hw := hw.1 c62
          refine v_iload_n X 2 rfl (gD D_X12_nextOf_0 24 rfl) rfl ?_
          refine v_istore_n X [(2, .int x2), (0, va_rf (some a0)), (1, .int x1), (3, .int x3)] (gD D_X12_nextOf_0 25 rfl) rfl (by decide) rfl ?_
          refine v_iinc X (x3 + 1) 3 rfl [(3, .int (x3 + 1)), (2, .int x2), (0, va_rf (some a0)), (1, .int x1)] (gD D_X12_nextOf_0 26 rfl) rfl (by decide) rfl ?_
          refine v_goto X 4 (gD D_X12_nextOf_0 27 rfl) (by decide) ?_
          exact v_sub [3] [2, 3, 1, 0] rfl rfl (ih a0 x1 x2 (x3 + 1) σ hw)
        · replace hw := hw.2 c62
          refine v_iload_n X 3 rfl (gD D_X12_nextOf_0 22 rfl) rfl ?_
          refine v_goto X 39 (gD D_X12_nextOf_0 23 rfl) (by decide) ?_
          refine v_istore_n X [(2, .int x3), (0, va_rf (some a0)), (1, .int x1), (3, .int x3)] (gD D_X12_nextOf_0 25 rfl) rfl (by decide) rfl ?_
          refine v_iinc X (x3 + 1) 3 rfl [(3, .int (x3 + 1)), (2, .int x3), (0, va_rf (some a0)), (1, .int x1)] (gD D_X12_nextOf_0 26 rfl) rfl (by decide) rfl ?_
          refine v_goto X 4 (gD D_X12_nextOf_0 27 rfl) (by decide) ?_
          exact v_sub [3] [2, 3, 1, 0] rfl rfl (ih a0 x1 x3 (x3 + 1) σ hw)
set_option maxRecDepth 100000 in
set_option maxHeartbeats 4000000 in
theorem c_X12_nextOf {l : Launch} {G : GX} (htr : l.stackTraces = false) {σ : St} {a0 : Nat} {x1 : Int32} {Q : Int32 → St → Prop} (ht : tvOk σ [(some a0, 13)]) (hw : w_X12_nextOf a0 x1 σ Q) : MI l G 2 σ yX12_nextOf cX12_nextOf 4 (some .int) 0 0 0 [va_rf (some a0), .int x1] Q := by
  unfold w_X12_nextOf at hw
  refine m_start RX12 (by decide) htr ht (Nat.le_of_ble_eq_true rfl) rfl (lv := [(0, va_rf (some a0)), (1, .int x1)]) (d := 2) (fun p e s m args below meth c X hr hin => ?_)
  refine v_iconst X (-1) (gD D_X12_nextOf_0 0 rfl) (by decide) ?_
  refine v_istore_n X [(2, .int (-1)), (0, va_rf (some a0)), (1, .int x1)] (gD D_X12_nextOf_0 1 rfl) rfl (by decide) rfl ?_
  refine v_iconst X 0 (gD D_X12_nextOf_0 2 rfl) (by decide) ?_
  refine v_istore_n X [(3, .int 0), (2, .int (-1)), (0, va_rf (some a0)), (1, .int x1)] (gD D_X12_nextOf_0 3 rfl) rfl (by decide) rfl ?_
  obtain ⟨f63, hw⟩ := hw
  exact v_sub [0] [2, 3, 1, 0] rfl rfl (t_X12_nextOf_4 X hr hin htr  f63 a0 x1 (-1) 0 σ hw)
set_option maxRecDepth 100000 in
set_option maxHeartbeats 4000000 in
theorem c_X12_slotAt {l : Launch} {G : GX} (htr : l.stackTraces = false) {σ : St} {x0 : Int32} {Q : Int32 → St → Prop} (ht : tvOk σ []) (hw : w_X12_slotAt x0 σ Q) : MI l G 2 σ yX12_slotAt cX12_slotAt 1 (some .int) 0 0 0 [.int x0] Q := by
  unfold w_X12_slotAt at hw
  refine m_start RX12 (by decide) htr ht (Nat.le_of_ble_eq_true rfl) rfl (lv := [(0, .int x0)]) (d := 2) (fun p e s m args below meth c X hr hin => ?_)
  refine v_iload_n X 0 rfl (gD D_X12_slotAt_0 0 rfl) rfl ?_
  refine v_bipush X 6 (gD D_X12_slotAt_0 1 rfl) (by decide) ?_
  refine v_idiv X (gD D_X12_slotAt_0 2 rfl) (by decide) ?_
  refine v_iconst X 1 (gD D_X12_slotAt_0 3 rfl) (by decide) ?_
  refine v_icmp_ne X 15 (gD D_X12_slotAt_0 4 rfl) (by decide) (fun c51 => ?_) (fun c51 => ?_)
  · replace hw := hw.1 c51
    refine v_iload_n X 0 rfl (gD D_X12_slotAt_0 9 rfl) rfl ?_
    exact v_iret X hr hw (gD D_X12_slotAt_0 10 rfl)
  · replace hw := hw.2 c51
    refine v_bipush X 17 (gD D_X12_slotAt_0 5 rfl) (by decide) ?_
    refine v_iload_n X 0 rfl (gD D_X12_slotAt_0 6 rfl) rfl ?_
    refine v_isub X (gD D_X12_slotAt_0 7 rfl) ?_
    refine v_goto X 16 (gD D_X12_slotAt_0 8 rfl) (by decide) ?_
    exact v_iret X hr hw (gD D_X12_slotAt_0 10 rfl)
set_option maxRecDepth 100000 in
set_option maxHeartbeats 4000000 in
theorem c_X12_standstills {l : Launch} {G : GX} (htr : l.stackTraces = false) {σ : St} {a0 : Nat} {Q : Int32 → St → Prop} (ht : tvOk σ [(some a0, 13)]) (hw : w_X12_standstills a0 σ Q) : MI l G 2 σ yX12_standstills cX12_standstills 1 (some .int) 0 0 0 [va_rf (some a0)] Q := by
  unfold w_X12_standstills at hw
  refine m_start RX12 (by decide) htr ht (Nat.le_of_ble_eq_true rfl) rfl (lv := [(0, va_rf (some a0))]) (d := 2) (fun p e s m args below meth c X hr hin => ?_)
  refine v_aload_n X 0 rfl (gD D_X12_standstills_0 0 rfl) rfl ?_
  refine v_iconst X 0 (gD D_X12_standstills_0 1 rfl) (by decide) ?_
  refine v_putI X RX12 TX12 65 13 12 (by decide) rfl gin12 0 1200 tyX12 tyX12_ok nmX12 RX12 (Or.inl rfl) 0 rfl .int (int_fit _) rfl (by decide) (Or.inl rfl) lk_fRX12_179 rfl rfl (gD D_X12_standstills_0 2 rfl) (fun s51 es51 => ?_)
  replace hw := hw s51 es51
  refine v_aload_n X 0 rfl (gD D_X12_standstills_0 3 rfl) rfl ?_
  refine v_getI X RX12 TX12 65 13 12 (by decide) rfl gin12 3 1203 RX12 (Or.inl rfl) 0 rfl rfl (by decide) lk_fRX12_359 (gD D_X12_standstills_0 4 rfl) ?_
  exact v_iret X hr hw (gD D_X12_standstills_0 5 rfl)
set_option maxRecDepth 100000 in
set_option maxHeartbeats 4000000 in
theorem c_X12_tasks {l : Launch} {G : GX} (htr : l.stackTraces = false) {σ : St} {a0 : Nat} {Q : Int32 → St → Prop} (ht : tvOk σ [(some a0, 13)]) (hw : w_X12_tasks a0 σ Q) : MI l G 2 σ yX12_tasks cX12_tasks 1 (some .int) 0 0 0 [va_rf (some a0)] Q := by
  unfold w_X12_tasks at hw
  refine m_start RX12 (by decide) htr ht (Nat.le_of_ble_eq_true rfl) rfl (lv := [(0, va_rf (some a0))]) (d := 2) (fun p e s m args below meth c X hr hin => ?_)
  refine v_aload_n X 0 rfl (gD D_X12_tasks_0 0 rfl) rfl ?_
  refine v_iconst X 0 (gD D_X12_tasks_0 1 rfl) (by decide) ?_
  refine v_putI X RX12 TX12 65 13 12 (by decide) rfl gin12 0 1200 tyX12 tyX12_ok nmX12 RX12 (Or.inl rfl) 0 rfl .int (int_fit _) rfl (by decide) (Or.inl rfl) lk_fRX12_179 rfl rfl (gD D_X12_tasks_0 2 rfl) (fun s51 es51 => ?_)
  replace hw := hw s51 es51
  refine v_aload_n X 0 rfl (gD D_X12_tasks_0 3 rfl) rfl ?_
  refine v_getI X RX12 TX12 65 13 12 (by decide) rfl gin12 45 1245 RX12 (Or.inl rfl) 0 rfl rfl (by decide) lk_fRX12_196 (gD D_X12_tasks_0 4 rfl) ?_
  exact v_iret X hr hw (gD D_X12_tasks_0 5 rfl)
set_option maxRecDepth 100000 in
set_option maxHeartbeats 4000000 in
theorem c_X12_thrown {l : Launch} {G : GX} (htr : l.stackTraces = false) {σ : St} {a0 : Nat} {Q : Int32 → St → Prop} (ht : tvOk σ [(some a0, 13)]) (hw : w_X12_thrown a0 σ Q) : MI l G 2 σ yX12_thrown cX12_thrown 1 (some .int) 0 0 0 [va_rf (some a0)] Q := by
  unfold w_X12_thrown at hw
  refine m_start RX12 (by decide) htr ht (Nat.le_of_ble_eq_true rfl) rfl (lv := [(0, va_rf (some a0))]) (d := 2) (fun p e s m args below meth c X hr hin => ?_)
  refine v_aload_n X 0 rfl (gD D_X12_thrown_0 0 rfl) rfl ?_
  refine v_getI X RX12 TX12 65 13 12 (by decide) rfl gin12 0 1200 RX12 (Or.inl rfl) 0 rfl rfl (by decide) lk_fRX12_179 (gD D_X12_thrown_0 1 rfl) ?_
  exact v_iret X hr hw (gD D_X12_thrown_0 2 rfl)
set_option maxRecDepth 100000 in
set_option maxHeartbeats 4000000 in
theorem t_X12_tidies_4 {p : Program} {l : Launch} {e : Env} {s : State} {m : MethodId} {args : Array Value} {below : List Frame} {meth : Method} {c : Code} {G : GX} {σ0 : St} {mc ms : Nat} {Q : St → Prop} (X : VC p l (rmD 0 mc ms) s m args meth c G 0 mc ms 3 RX12 cX12_tidies) (hr : meth.sig.returnType = none) (hin : meth.name = yX12_tidies.name) (htr : l.stackTraces = false) : ∀ (f : Nat) (a0 : Nat) (x1 : Int32) (x2 : Int32) (σ : St), w_X12_tidies_4 Q  f a0 x1 x2 σ → V p l e (rmD 0 mc ms) s m args below meth c (MQ below (va_Qv Q (gB G 2 σ0) (GA G)) args s mc ms (GA G)) G 2 σ0 mc ms 3 σ 0 0 [(some a0, 13)] 4 [(0, va_rf (some a0)), (1, .int x1), (2, .int x2)] [] := by
  intro f
  induction f with
  | zero => intro a0 x1 x2 σ hw; exact hw.elim
  | succ f ih =>
    intro a0 x1 x2 σ hw
    unfold w_X12_tidies_4 at hw
    refine v_iload_n X 2 rfl (gD D_X12_tidies_0 4 rfl) rfl ?_
    refine v_aload_n X 0 rfl (gD D_X12_tidies_0 5 rfl) rfl ?_
    refine v_getI X RX12 TX12 65 13 12 (by decide) rfl gin12 39 1239 RX12 (Or.inl rfl) 0 rfl rfl (by decide) lk_fRX12_203 (gD D_X12_tidies_0 6 rfl) ?_
    refine v_icmp_ge X 90 (gD D_X12_tidies_0 7 rfl) (by decide) (fun c51 => ?_) (fun c51 => ?_)
    · replace hw := hw.1 c51
      refine v_aload_n X 0 rfl (gD D_X12_tidies_0 56 rfl) rfl ?_
      refine v_iload_n X 1 rfl (gD D_X12_tidies_0 57 rfl) rfl ?_
      refine v_putI X RX12 TX12 65 13 12 (by decide) rfl gin12 39 1239 tyX12 tyX12_ok nmX12 RX12 (Or.inl rfl) 0 rfl .int (int_fit _) rfl (by decide) (Or.inl rfl) lk_fRX12_203 rfl rfl (gD D_X12_tidies_0 58 rfl) (fun s52 es52 => ?_)
      replace hw := hw s52 es52
      exact v_vret X hr hw (gD D_X12_tidies_0 59 rfl)
    · replace hw := hw.2 c51
      refine v_aload_n X 0 rfl (gD D_X12_tidies_0 8 rfl) rfl ?_
      refine v_getR X RX12 TX12 65 13 12 (by decide) rfl gin12 43 1243 RX12 (Or.inl rfl) 0 21 rfl rfl rfl (by decide) lk_fRX12_116 (gD D_X12_tidies_0 9 rfl) (fun o53 eo53 => ?_)
      replace hw := hw o53 eo53
      refine v_iload_n X 2 rfl (gD D_X12_tidies_0 10 rfl) rfl ?_
      obtain ⟨a54, rfl, hw⟩ := hw
      obtain ⟨h55, hw⟩ := hw
      refine v_iald X 0 rfl (by decide) h55 (gD D_X12_tidies_0 11 rfl) ?_
      refine v_if_le X 84 (gD D_X12_tidies_0 12 rfl) (by decide) (fun c56 => ?_) (fun c56 => ?_)
      · replace hw := hw.1 c56
        refine v_iinc X (x2 + 1) 2 rfl [(2, .int (x2 + 1)), (0, va_rf (some a0)), (1, .int x1)] (gD D_X12_tidies_0 54 rfl) rfl (by decide) rfl ?_
        refine v_goto X 4 (gD D_X12_tidies_0 55 rfl) (by decide) ?_
        exact v_sub [1] [1, 2, 0] rfl rfl (ih a0 x1 (x2 + 1) σ hw)
      · replace hw := hw.2 c56
        refine v_aload_n X 0 rfl (gD D_X12_tidies_0 13 rfl) rfl ?_
        refine v_getR X RX12 TX12 65 13 12 (by decide) rfl gin12 40 1240 RX12 (Or.inl rfl) 1 21 rfl rfl rfl (by decide) lk_fRX12_107 (gD D_X12_tidies_0 14 rfl) (fun o57 eo57 => ?_)
        replace hw := hw o57 eo57
        refine v_iload_n X 1 rfl (gD D_X12_tidies_0 15 rfl) rfl ?_
        refine v_aload_n X 0 rfl (gD D_X12_tidies_0 16 rfl) rfl ?_
        refine v_getR X RX12 TX12 65 13 12 (by decide) rfl gin12 40 1240 RX12 (Or.inl rfl) 2 21 rfl rfl rfl (by decide) lk_fRX12_107 (gD D_X12_tidies_0 17 rfl) (fun o58 eo58 => ?_)
        replace hw := hw o58 eo58
        refine v_iload_n X 2 rfl (gD D_X12_tidies_0 18 rfl) rfl ?_
        obtain ⟨a59, rfl, hw⟩ := hw
        obtain ⟨h60, hw⟩ := hw
        refine v_iald X 0 rfl (by decide) h60 (gD D_X12_tidies_0 19 rfl) ?_
        obtain ⟨a61, rfl, hw⟩ := hw
        obtain ⟨h62, hw⟩ := hw
        refine v_iast X 1 rfl (by decide) (Or.inl rfl) h62 (gD D_X12_tidies_0 20 rfl) (fun s63 es63 => ?_)
        replace hw := hw s63 es63
        refine v_aload_n X 0 rfl (gD D_X12_tidies_0 21 rfl) rfl ?_
        refine v_getR X RX12 TX12 65 13 12 (by decide) rfl gin12 41 1241 RX12 (Or.inl rfl) 3 21 rfl rfl rfl (by decide) lk_fRX12_110 (gD D_X12_tidies_0 22 rfl) (fun o64 eo64 => ?_)
        replace hw := hw o64 eo64
        refine v_iload_n X 1 rfl (gD D_X12_tidies_0 23 rfl) rfl ?_
        refine v_aload_n X 0 rfl (gD D_X12_tidies_0 24 rfl) rfl ?_
        refine v_getR X RX12 TX12 65 13 12 (by decide) rfl gin12 41 1241 RX12 (Or.inl rfl) 4 21 rfl rfl rfl (by decide) lk_fRX12_110 (gD D_X12_tidies_0 25 rfl) (fun o65 eo65 => ?_)
        replace hw := hw o65 eo65
        refine v_iload_n X 2 rfl (gD D_X12_tidies_0 26 rfl) rfl ?_
        obtain ⟨a66, rfl, hw⟩ := hw
        obtain ⟨h67, hw⟩ := hw
        refine v_iald X 0 rfl (by decide) h67 (gD D_X12_tidies_0 27 rfl) ?_
        obtain ⟨a68, rfl, hw⟩ := hw
        obtain ⟨h69, hw⟩ := hw
        refine v_iast X 1 rfl (by decide) (Or.inl rfl) h69 (gD D_X12_tidies_0 28 rfl) (fun s70 es70 => ?_)
        replace hw := hw s70 es70
        refine v_aload_n X 0 rfl (gD D_X12_tidies_0 29 rfl) rfl ?_
        refine v_getR X RX12 TX12 65 13 12 (by decide) rfl gin12 42 1242 RX12 (Or.inl rfl) 5 21 rfl rfl rfl (by decide) lk_fRX12_113 (gD D_X12_tidies_0 30 rfl) (fun o71 eo71 => ?_)
        replace hw := hw o71 eo71
        refine v_iload_n X 1 rfl (gD D_X12_tidies_0 31 rfl) rfl ?_
        refine v_aload_n X 0 rfl (gD D_X12_tidies_0 32 rfl) rfl ?_
        refine v_getR X RX12 TX12 65 13 12 (by decide) rfl gin12 42 1242 RX12 (Or.inl rfl) 6 21 rfl rfl rfl (by decide) lk_fRX12_113 (gD D_X12_tidies_0 33 rfl) (fun o72 eo72 => ?_)
        replace hw := hw o72 eo72
        refine v_iload_n X 2 rfl (gD D_X12_tidies_0 34 rfl) rfl ?_
        obtain ⟨a73, rfl, hw⟩ := hw
        obtain ⟨h74, hw⟩ := hw
        refine v_iald X 0 rfl (by decide) h74 (gD D_X12_tidies_0 35 rfl) ?_
        obtain ⟨a75, rfl, hw⟩ := hw
        obtain ⟨h76, hw⟩ := hw
        refine v_iast X 1 rfl (by decide) (Or.inl rfl) h76 (gD D_X12_tidies_0 36 rfl) (fun s77 es77 => ?_)
        replace hw := hw s77 es77
        refine v_aload_n X 0 rfl (gD D_X12_tidies_0 37 rfl) rfl ?_
        refine v_getR X RX12 TX12 65 13 12 (by decide) rfl gin12 43 1243 RX12 (Or.inl rfl) 7 21 rfl rfl rfl (by decide) lk_fRX12_116 (gD D_X12_tidies_0 38 rfl) (fun o78 eo78 => ?_)
        replace hw := hw o78 eo78
        refine v_iload_n X 1 rfl (gD D_X12_tidies_0 39 rfl) rfl ?_
        refine v_aload_n X 0 rfl (gD D_X12_tidies_0 40 rfl) rfl ?_
        refine v_getR X RX12 TX12 65 13 12 (by decide) rfl gin12 43 1243 RX12 (Or.inl rfl) 8 21 rfl rfl rfl (by decide) lk_fRX12_116 (gD D_X12_tidies_0 41 rfl) (fun o79 eo79 => ?_)
        replace hw := hw o79 eo79
        refine v_iload_n X 2 rfl (gD D_X12_tidies_0 42 rfl) rfl ?_
        obtain ⟨a80, rfl, hw⟩ := hw
        obtain ⟨h81, hw⟩ := hw
        refine v_iald X 0 rfl (by decide) h81 (gD D_X12_tidies_0 43 rfl) ?_
        obtain ⟨a82, rfl, hw⟩ := hw
        obtain ⟨h83, hw⟩ := hw
        refine v_iast X 1 rfl (by decide) (Or.inl rfl) h83 (gD D_X12_tidies_0 44 rfl) (fun s84 es84 => ?_)
        replace hw := hw s84 es84
        refine v_aload_n X 0 rfl (gD D_X12_tidies_0 45 rfl) rfl ?_
        refine v_getR X RX12 TX12 65 13 12 (by decide) rfl gin12 44 1244 RX12 (Or.inl rfl) 9 21 rfl rfl rfl (by decide) lk_fRX12_119 (gD D_X12_tidies_0 46 rfl) (fun o85 eo85 => ?_)
        replace hw := hw o85 eo85
        refine v_iload_n X 1 rfl (gD D_X12_tidies_0 47 rfl) rfl ?_
        refine v_aload_n X 0 rfl (gD D_X12_tidies_0 48 rfl) rfl ?_
        refine v_getR X RX12 TX12 65 13 12 (by decide) rfl gin12 44 1244 RX12 (Or.inl rfl) 10 21 rfl rfl rfl (by decide) lk_fRX12_119 (gD D_X12_tidies_0 49 rfl) (fun o86 eo86 => ?_)
        replace hw := hw o86 eo86
        refine v_iload_n X 2 rfl (gD D_X12_tidies_0 50 rfl) rfl ?_
        obtain ⟨a87, rfl, hw⟩ := hw
        obtain ⟨h88, hw⟩ := hw
        refine v_iald X 0 rfl (by decide) h88 (gD D_X12_tidies_0 51 rfl) ?_
        obtain ⟨a89, rfl, hw⟩ := hw
        obtain ⟨h90, hw⟩ := hw
        refine v_iast X 1 rfl (by decide) (Or.inl rfl) h90 (gD D_X12_tidies_0 52 rfl) (fun s91 es91 => ?_)
        replace hw := hw s91 es91
        refine v_iinc X (x1 + 1) 1 rfl [(1, .int (x1 + 1)), (0, va_rf (some a0)), (2, .int x2)] (gD D_X12_tidies_0 53 rfl) rfl (by decide) rfl ?_
        refine v_iinc X (x2 + 1) 2 rfl [(2, .int (x2 + 1)), (1, .int (x1 + 1)), (0, va_rf (some a0))] (gD D_X12_tidies_0 54 rfl) rfl (by decide) rfl ?_
        refine v_goto X 4 (gD D_X12_tidies_0 55 rfl) (by decide) ?_
        exact v_sub [11] [2, 1, 0] rfl rfl (ih a0 (x1 + 1) (x2 + 1) s91 hw)
set_option maxRecDepth 100000 in
set_option maxHeartbeats 4000000 in
theorem c_X12_tidies {l : Launch} {G : GX} (htr : l.stackTraces = false) {σ : St} {a0 : Nat} {Q : St → Prop} (ht : tvOk σ [(some a0, 13)]) (hw : w_X12_tidies a0 σ Q) : MV l G 2 σ yX12_tidies cX12_tidies 3 0 0 0 [va_rf (some a0)] Q := by
  unfold w_X12_tidies at hw
  refine m_start RX12 (by decide) htr ht (Nat.le_of_ble_eq_true rfl) rfl (lv := [(0, va_rf (some a0))]) (d := 2) (fun p e s m args below meth c X hr hin => ?_)
  refine v_iconst X 0 (gD D_X12_tidies_0 0 rfl) (by decide) ?_
  refine v_istore_n X [(1, .int 0), (0, va_rf (some a0))] (gD D_X12_tidies_0 1 rfl) rfl (by decide) rfl ?_
  refine v_iconst X 0 (gD D_X12_tidies_0 2 rfl) (by decide) ?_
  refine v_istore_n X [(2, .int 0), (1, .int 0), (0, va_rf (some a0))] (gD D_X12_tidies_0 3 rfl) rfl (by decide) rfl ?_
  obtain ⟨f92, hw⟩ := hw
  exact v_sub [0] [2, 1, 0] rfl rfl (t_X12_tidies_4 X hr hin htr  f92 a0 0 0 σ hw)
set_option maxRecDepth 100000 in
set_option maxHeartbeats 4000000 in
theorem c_X12_arePieces {l : Launch} {G : GX} (htr : l.stackTraces = false) {σ : St} {x0 : Int32} {Q : Int32 → St → Prop} (ht : tvOk σ []) (hw : w_X12_arePieces x0 σ Q) : MI l G 2 σ yX12_arePieces cX12_arePieces 1 (some .boolean) 1 0 0 [.int x0] Q := by
  unfold w_X12_arePieces at hw
  refine m_start RX12 (by decide) htr ht (Nat.le_of_ble_eq_true rfl) rfl (lv := [(0, .int x0)]) (d := 2) (fun p e s m args below meth c X hr hin => ?_)
  refine v_iload_n X 0 rfl (gD D_X12_arePieces_0 0 rfl) rfl ?_
  refine v_iconst X 1 (gD D_X12_arePieces_0 1 rfl) (by decide) ?_
  refine v_bipush X 99 (gD D_X12_arePieces_0 2 rfl) (by decide) ?_
  refine v_callSi X (As := [.int x0, .int 1, .int 99]) (rest := []) (nA := 3) 0 0 0 0 (fun ht => c_X12_isIn htr (ht.sub [] rfl) hw) (Or.inl rfl) lk_sRX12_183 (by decide +kernel) rfl rfl (by decide) (by decide) (by decide) rfl rfl (gD D_X12_arePieces_0 3 rfl) (fun x51 s52 hq _ _ => ?_)
  replace hw := hq
  clear hq
  exact v_zret X hr hw.1 hw.2 (gD D_X12_arePieces_0 4 rfl)
set_option maxRecDepth 100000 in
set_option maxHeartbeats 4000000 in
theorem t_X12_heldAt_79 {p : Program} {l : Launch} {e : Env} {s : State} {m : MethodId} {args : Array Value} {below : List Frame} {meth : Method} {c : Code} {G : GX} {σ0 : St} {mc ms : Nat} {Q : Int32 → St → Prop} (X : VC p l (rmD 1 mc ms) s m args meth c G 1 mc ms 5 RX12 cX12_heldAt) (hr : meth.sig.returnType = (some .int)) (hin : meth.name = yX12_heldAt.name) (htr : l.stackTraces = false) : ∀ (f : Nat) (a0 : Nat) (x1 : Int32) (x2 : Int32) (x3 : Int32) (x4 : Int32) (σ : St), w_X12_heldAt_79 Q  f a0 x1 x2 x3 x4 σ → V p l e (rmD 1 mc ms) s m args below meth c (MQ below (va_Qi Q (gB G 2 σ0) (GA G)) args s mc ms (GA G)) G 2 σ0 mc ms 5 σ 0 0 [(some a0, 13)] 79 [(0, va_rf (some a0)), (1, .int x1), (2, .int x2), (3, .int x3), (4, .int x4)] [] := by
  intro f
  induction f with
  | zero => intro a0 x1 x2 x3 x4 σ hw; exact hw.elim
  | succ f ih =>
    intro a0 x1 x2 x3 x4 σ hw
    unfold w_X12_heldAt_79 at hw
    refine v_iload X 4 rfl (gD D_X12_heldAt_0 43 rfl) ?_
    refine v_aload_n X 0 rfl (gD D_X12_heldAt_0 44 rfl) rfl ?_
    refine v_getI X RX12 TX12 65 13 12 (by decide) rfl gin12 39 1239 RX12 (Or.inl rfl) 0 rfl rfl (by decide) lk_fRX12_203 (gD D_X12_heldAt_0 45 rfl) ?_
    refine v_icmp_ge X 130 (gD D_X12_heldAt_0 46 rfl) (by decide) (fun c52 => ?_) (fun c52 => ?_)
    · replace hw := hw.1 c52
      refine v_iload_n X 3 rfl (gD D_X12_heldAt_0 70 rfl) rfl ?_
      exact v_iret X hr hw (gD D_X12_heldAt_0 71 rfl)
    · replace hw := hw.2 c52
      refine v_iload_n X 3 rfl (gD D_X12_heldAt_0 47 rfl) rfl ?_
      refine v_aload_n X 0 rfl (gD D_X12_heldAt_0 48 rfl) rfl ?_
      refine v_getR X RX12 TX12 65 13 12 (by decide) rfl gin12 41 1241 RX12 (Or.inl rfl) 0 21 rfl rfl rfl (by decide) lk_fRX12_110 (gD D_X12_heldAt_0 49 rfl) (fun o53 eo53 => ?_)
      replace hw := hw o53 eo53
      refine v_iload X 4 rfl (gD D_X12_heldAt_0 50 rfl) ?_
      obtain ⟨a54, rfl, hw⟩ := hw
      obtain ⟨h55, hw⟩ := hw
      refine v_iald X 0 rfl (by decide) h55 (gD D_X12_heldAt_0 51 rfl) ?_
      refine v_iload_n X 1 rfl (gD D_X12_heldAt_0 52 rfl) rfl ?_
      refine v_icmp_ne X 121 (gD D_X12_heldAt_0 53 rfl) (by decide) (fun c56 => ?_) (fun c56 => ?_)
      · replace hw := hw.1 c56
        refine v_iconst X 0 (gD D_X12_heldAt_0 65 rfl) (by decide) ?_
        refine v_iadd X (gD D_X12_heldAt_0 66 rfl) ?_
        refine v_topi (fun x57 ex57 => ?_)
        replace hw := hw x57 ex57
        refine v_istore_n X [(3, .int x57), (0, va_rf (some a0)), (1, .int x1), (2, .int x2), (4, .int x4)] (gD D_X12_heldAt_0 67 rfl) rfl (by decide) rfl ?_
        refine v_iinc X (x4 + 1) 4 rfl [(4, .int (x4 + 1)), (3, .int x57), (0, va_rf (some a0)), (1, .int x1), (2, .int x2)] (gD D_X12_heldAt_0 68 rfl) rfl (by decide) rfl ?_
        refine v_goto X 79 (gD D_X12_heldAt_0 69 rfl) (by decide) ?_
        exact v_sub [1] [2, 3, 4, 1, 0] rfl rfl (ih a0 x1 x2 x57 (x4 + 1) σ hw)
      · replace hw := hw.2 c56
        refine v_aload_n X 0 rfl (gD D_X12_heldAt_0 54 rfl) rfl ?_
        refine v_getR X RX12 TX12 65 13 12 (by decide) rfl gin12 42 1242 RX12 (Or.inl rfl) 1 21 rfl rfl rfl (by decide) lk_fRX12_113 (gD D_X12_heldAt_0 55 rfl) (fun o58 eo58 => ?_)
        replace hw := hw o58 eo58
        refine v_iload X 4 rfl (gD D_X12_heldAt_0 56 rfl) ?_
        obtain ⟨a59, rfl, hw⟩ := hw
        obtain ⟨h60, hw⟩ := hw
        refine v_iald X 0 rfl (by decide) h60 (gD D_X12_heldAt_0 57 rfl) ?_
        refine v_iload_n X 2 rfl (gD D_X12_heldAt_0 58 rfl) rfl ?_
        refine v_icmp_ne X 121 (gD D_X12_heldAt_0 59 rfl) (by decide) (fun c61 => ?_) (fun c61 => ?_)
        · replace hw := hw.1 c61
          refine v_iconst X 0 (gD D_X12_heldAt_0 65 rfl) (by decide) ?_
          refine v_iadd X (gD D_X12_heldAt_0 66 rfl) ?_
          refine v_topi (fun x62 ex62 => ?_)
          replace hw := hw x62 ex62
          refine v_istore_n X [(3, .int x62), (0, va_rf (some a0)), (1, .int x1), (2, .int x2), (4, .int x4)] (gD D_X12_heldAt_0 67 rfl) rfl (by decide) rfl ?_
          refine v_iinc X (x4 + 1) 4 rfl [(4, .int (x4 + 1)), (3, .int x62), (0, va_rf (some a0)), (1, .int x1), (2, .int x2)] (gD D_X12_heldAt_0 68 rfl) rfl (by decide) rfl ?_
          refine v_goto X 79 (gD D_X12_heldAt_0 69 rfl) (by decide) ?_
          exact v_sub [2] [2, 3, 4, 1, 0] rfl rfl (ih a0 x1 x2 x62 (x4 + 1) σ hw)
        · replace hw := hw.2 c61
          refine v_aload_n X 0 rfl (gD D_X12_heldAt_0 60 rfl) rfl ?_
          refine v_getR X RX12 TX12 65 13 12 (by decide) rfl gin12 43 1243 RX12 (Or.inl rfl) 2 21 rfl rfl rfl (by decide) lk_fRX12_116 (gD D_X12_heldAt_0 61 rfl) (fun o63 eo63 => ?_)
          replace hw := hw o63 eo63
          refine v_iload X 4 rfl (gD D_X12_heldAt_0 62 rfl) ?_
          obtain ⟨a64, rfl, hw⟩ := hw
          obtain ⟨h65, hw⟩ := hw
          refine v_iald X 0 rfl (by decide) h65 (gD D_X12_heldAt_0 63 rfl) ?_
          refine v_goto X 122 (gD D_X12_heldAt_0 64 rfl) (by decide) ?_
          refine v_iadd X (gD D_X12_heldAt_0 66 rfl) ?_
          refine v_topi (fun x66 ex66 => ?_)
          replace hw := hw x66 ex66
          refine v_istore_n X [(3, .int x66), (0, va_rf (some a0)), (1, .int x1), (2, .int x2), (4, .int x4)] (gD D_X12_heldAt_0 67 rfl) rfl (by decide) rfl ?_
          refine v_iinc X (x4 + 1) 4 rfl [(4, .int (x4 + 1)), (3, .int x66), (0, va_rf (some a0)), (1, .int x1), (2, .int x2)] (gD D_X12_heldAt_0 68 rfl) rfl (by decide) rfl ?_
          refine v_goto X 79 (gD D_X12_heldAt_0 69 rfl) (by decide) ?_
          exact v_sub [3] [2, 3, 4, 1, 0] rfl rfl (ih a0 x1 x2 x66 (x4 + 1) σ hw)
set_option maxRecDepth 100000 in
set_option maxHeartbeats 4000000 in
theorem t_X12_heldAt_5 {p : Program} {l : Launch} {e : Env} {s : State} {m : MethodId} {args : Array Value} {below : List Frame} {meth : Method} {c : Code} {G : GX} {σ0 : St} {mc ms : Nat} {Q : Int32 → St → Prop} (X : VC p l (rmD 1 mc ms) s m args meth c G 1 mc ms 5 RX12 cX12_heldAt) (hr : meth.sig.returnType = (some .int)) (hin : meth.name = yX12_heldAt.name) (htr : l.stackTraces = false) : ∀ (f : Nat) (a0 : Nat) (x1 : Int32) (x2 : Int32) (x3 : Int32) (x4 : Int32) (σ : St), w_X12_heldAt_5 Q  f a0 x1 x2 x3 x4 σ → V p l e (rmD 1 mc ms) s m args below meth c (MQ below (va_Qi Q (gB G 2 σ0) (GA G)) args s mc ms (GA G)) G 2 σ0 mc ms 5 σ 0 0 [(some a0, 13)] 5 [(0, va_rf (some a0)), (1, .int x1), (2, .int x2), (3, .int x3), (4, .int x4)] [] := by
  intro f
  induction f with
  | zero => intro a0 x1 x2 x3 x4 σ hw; exact hw.elim
  | succ f ih =>
    intro a0 x1 x2 x3 x4 σ hw
    unfold w_X12_heldAt_5 at hw
    refine v_iload X 4 rfl (gD D_X12_heldAt_0 4 rfl) ?_
    refine v_aload_n X 0 rfl (gD D_X12_heldAt_0 5 rfl) rfl ?_
    refine v_getI X RX12 TX12 65 13 12 (by decide) rfl gin12 45 1245 RX12 (Or.inl rfl) 0 rfl rfl (by decide) lk_fRX12_196 (gD D_X12_heldAt_0 6 rfl) ?_
    refine v_icmp_ge X 76 (gD D_X12_heldAt_0 7 rfl) (by decide) (fun c51 => ?_) (fun c51 => ?_)
    · replace hw := hw.1 c51
      refine v_iconst X 0 (gD D_X12_heldAt_0 41 rfl) (by decide) ?_
      refine v_istore X [(4, .int 0), (0, va_rf (some a0)), (1, .int x1), (2, .int x2), (3, .int x3)] (gD D_X12_heldAt_0 42 rfl) (by decide) rfl ?_
      obtain ⟨f67, hw⟩ := hw
      exact v_sub [0] [1, 2, 3, 4, 0] rfl rfl (t_X12_heldAt_79 X hr hin htr  f67 a0 x1 x2 x3 0 σ hw)
    · replace hw := hw.2 c51
      refine v_iload_n X 3 rfl (gD D_X12_heldAt_0 8 rfl) rfl ?_
      refine v_aload_n X 0 rfl (gD D_X12_heldAt_0 9 rfl) rfl ?_
      refine v_iload X 4 rfl (gD D_X12_heldAt_0 10 rfl) ?_
      refine v_callVi X (As := [.int x4]) (rest := [.int x3]) (nA := 1) 0 0 0 0 (fun ht => c_X12_isOn htr (ht.sub [0] rfl) hw) (Or.inl rfl) 0 (κ := 13) rfl (by decide) (rfl : gCl[12]? = some (RX12, TX12, 65)) lk_vRX12_199 (by decide +kernel) rfl rfl (by simp [rf_cat, ct_i]) (by decide) (by decide) rfl rfl (gD D_X12_heldAt_0 11 rfl) (fun x68 s69 hq _ _ => ?_)
      replace hw := hq
      clear hq
      refine v_if_eq X 67 (gD D_X12_heldAt_0 12 rfl) (by decide) (fun c70 => ?_) (fun c70 => ?_)
      · replace hw := hw.1 c70
        refine v_iconst X 0 (gD D_X12_heldAt_0 36 rfl) (by decide) ?_
        refine v_iadd X (gD D_X12_heldAt_0 37 rfl) ?_
        refine v_topi (fun x71 ex71 => ?_)
        replace hw := hw x71 ex71
        refine v_istore_n X [(3, .int x71), (0, va_rf (some a0)), (1, .int x1), (2, .int x2), (4, .int x4)] (gD D_X12_heldAt_0 38 rfl) rfl (by decide) rfl ?_
        refine v_iinc X (x4 + 1) 4 rfl [(4, .int (x4 + 1)), (3, .int x71), (0, va_rf (some a0)), (1, .int x1), (2, .int x2)] (gD D_X12_heldAt_0 39 rfl) rfl (by decide) rfl ?_
        refine v_goto X 5 (gD D_X12_heldAt_0 40 rfl) (by decide) ?_
        exact v_sub [0] [2, 3, 4, 1, 0] rfl rfl (ih a0 x1 x2 x71 (x4 + 1) s69 hw)
      · replace hw := hw.2 c70
        refine v_aload_n X 0 rfl (gD D_X12_heldAt_0 13 rfl) rfl ?_
        refine v_getR X RX12 TX12 65 13 12 (by decide) rfl gin12 46 1246 RX12 (Or.inl rfl) 0 21 rfl rfl rfl (by decide) lk_fRX12_122 (gD D_X12_heldAt_0 14 rfl) (fun o72 eo72 => ?_)
        replace hw := hw o72 eo72
        refine v_iload X 4 rfl (gD D_X12_heldAt_0 15 rfl) ?_
        obtain ⟨a73, rfl, hw⟩ := hw
        obtain ⟨h74, hw⟩ := hw
        refine v_iald X 0 rfl (by decide) h74 (gD D_X12_heldAt_0 16 rfl) ?_
        refine v_iconst X 2 (gD D_X12_heldAt_0 17 rfl) (by decide) ?_
        refine v_icmp_eq X 67 (gD D_X12_heldAt_0 18 rfl) (by decide) (fun c75 => ?_) (fun c75 => ?_)
        · replace hw := hw.1 c75
          refine v_iconst X 0 (gD D_X12_heldAt_0 36 rfl) (by decide) ?_
          refine v_iadd X (gD D_X12_heldAt_0 37 rfl) ?_
          refine v_topi (fun x76 ex76 => ?_)
          replace hw := hw x76 ex76
          refine v_istore_n X [(3, .int x76), (0, va_rf (some a0)), (1, .int x1), (2, .int x2), (4, .int x4)] (gD D_X12_heldAt_0 38 rfl) rfl (by decide) rfl ?_
          refine v_iinc X (x4 + 1) 4 rfl [(4, .int (x4 + 1)), (3, .int x76), (0, va_rf (some a0)), (1, .int x1), (2, .int x2)] (gD D_X12_heldAt_0 39 rfl) rfl (by decide) rfl ?_
          refine v_goto X 5 (gD D_X12_heldAt_0 40 rfl) (by decide) ?_
          exact v_sub [1] [2, 3, 4, 1, 0] rfl rfl (ih a0 x1 x2 x76 (x4 + 1) s69 hw)
        · replace hw := hw.2 c75
          refine v_aload_n X 0 rfl (gD D_X12_heldAt_0 19 rfl) rfl ?_
          refine v_getR X RX12 TX12 65 13 12 (by decide) rfl gin12 48 1248 RX12 (Or.inl rfl) 1 21 rfl rfl rfl (by decide) lk_fRX12_128 (gD D_X12_heldAt_0 20 rfl) (fun o77 eo77 => ?_)
          replace hw := hw o77 eo77
          refine v_iload X 4 rfl (gD D_X12_heldAt_0 21 rfl) ?_
          obtain ⟨a78, rfl, hw⟩ := hw
          obtain ⟨h79, hw⟩ := hw
          refine v_iald X 0 rfl (by decide) h79 (gD D_X12_heldAt_0 22 rfl) ?_
          refine v_iload_n X 1 rfl (gD D_X12_heldAt_0 23 rfl) rfl ?_
          refine v_icmp_ne X 67 (gD D_X12_heldAt_0 24 rfl) (by decide) (fun c80 => ?_) (fun c80 => ?_)
          · replace hw := hw.1 c80
            refine v_iconst X 0 (gD D_X12_heldAt_0 36 rfl) (by decide) ?_
            refine v_iadd X (gD D_X12_heldAt_0 37 rfl) ?_
            refine v_topi (fun x81 ex81 => ?_)
            replace hw := hw x81 ex81
            refine v_istore_n X [(3, .int x81), (0, va_rf (some a0)), (1, .int x1), (2, .int x2), (4, .int x4)] (gD D_X12_heldAt_0 38 rfl) rfl (by decide) rfl ?_
            refine v_iinc X (x4 + 1) 4 rfl [(4, .int (x4 + 1)), (3, .int x81), (0, va_rf (some a0)), (1, .int x1), (2, .int x2)] (gD D_X12_heldAt_0 39 rfl) rfl (by decide) rfl ?_
            refine v_goto X 5 (gD D_X12_heldAt_0 40 rfl) (by decide) ?_
            exact v_sub [2] [2, 3, 4, 1, 0] rfl rfl (ih a0 x1 x2 x81 (x4 + 1) s69 hw)
          · replace hw := hw.2 c80
            refine v_aload_n X 0 rfl (gD D_X12_heldAt_0 25 rfl) rfl ?_
            refine v_getR X RX12 TX12 65 13 12 (by decide) rfl gin12 47 1247 RX12 (Or.inl rfl) 2 21 rfl rfl rfl (by decide) lk_fRX12_125 (gD D_X12_heldAt_0 26 rfl) (fun o82 eo82 => ?_)
            replace hw := hw o82 eo82
            refine v_iload X 4 rfl (gD D_X12_heldAt_0 27 rfl) ?_
            obtain ⟨a83, rfl, hw⟩ := hw
            obtain ⟨h84, hw⟩ := hw
            refine v_iald X 0 rfl (by decide) h84 (gD D_X12_heldAt_0 28 rfl) ?_
            refine v_iload_n X 2 rfl (gD D_X12_heldAt_0 29 rfl) rfl ?_
            refine v_icmp_ne X 67 (gD D_X12_heldAt_0 30 rfl) (by decide) (fun c85 => ?_) (fun c85 => ?_)
            · replace hw := hw.1 c85
              refine v_iconst X 0 (gD D_X12_heldAt_0 36 rfl) (by decide) ?_
              refine v_iadd X (gD D_X12_heldAt_0 37 rfl) ?_
              refine v_topi (fun x86 ex86 => ?_)
              replace hw := hw x86 ex86
              refine v_istore_n X [(3, .int x86), (0, va_rf (some a0)), (1, .int x1), (2, .int x2), (4, .int x4)] (gD D_X12_heldAt_0 38 rfl) rfl (by decide) rfl ?_
              refine v_iinc X (x4 + 1) 4 rfl [(4, .int (x4 + 1)), (3, .int x86), (0, va_rf (some a0)), (1, .int x1), (2, .int x2)] (gD D_X12_heldAt_0 39 rfl) rfl (by decide) rfl ?_
              refine v_goto X 5 (gD D_X12_heldAt_0 40 rfl) (by decide) ?_
              exact v_sub [3] [2, 3, 4, 1, 0] rfl rfl (ih a0 x1 x2 x86 (x4 + 1) s69 hw)
            · replace hw := hw.2 c85
              refine v_aload_n X 0 rfl (gD D_X12_heldAt_0 31 rfl) rfl ?_
              refine v_getR X RX12 TX12 65 13 12 (by decide) rfl gin12 51 1251 RX12 (Or.inl rfl) 3 21 rfl rfl rfl (by decide) lk_fRX12_137 (gD D_X12_heldAt_0 32 rfl) (fun o87 eo87 => ?_)
              replace hw := hw o87 eo87
              refine v_iload X 4 rfl (gD D_X12_heldAt_0 33 rfl) ?_
              obtain ⟨a88, rfl, hw⟩ := hw
              obtain ⟨h89, hw⟩ := hw
              refine v_iald X 0 rfl (by decide) h89 (gD D_X12_heldAt_0 34 rfl) ?_
              refine v_goto X 68 (gD D_X12_heldAt_0 35 rfl) (by decide) ?_
              refine v_iadd X (gD D_X12_heldAt_0 37 rfl) ?_
              refine v_topi (fun x90 ex90 => ?_)
              replace hw := hw x90 ex90
              refine v_istore_n X [(3, .int x90), (0, va_rf (some a0)), (1, .int x1), (2, .int x2), (4, .int x4)] (gD D_X12_heldAt_0 38 rfl) rfl (by decide) rfl ?_
              refine v_iinc X (x4 + 1) 4 rfl [(4, .int (x4 + 1)), (3, .int x90), (0, va_rf (some a0)), (1, .int x1), (2, .int x2)] (gD D_X12_heldAt_0 39 rfl) rfl (by decide) rfl ?_
              refine v_goto X 5 (gD D_X12_heldAt_0 40 rfl) (by decide) ?_
              exact v_sub [4] [2, 3, 4, 1, 0] rfl rfl (ih a0 x1 x2 x90 (x4 + 1) s69 hw)
set_option maxRecDepth 100000 in
set_option maxHeartbeats 4000000 in
theorem c_X12_heldAt {l : Launch} {G : GX} (htr : l.stackTraces = false) {σ : St} {a0 : Nat} {x1 : Int32} {x2 : Int32} {Q : Int32 → St → Prop} (ht : tvOk σ [(some a0, 13)]) (hw : w_X12_heldAt a0 x1 x2 σ Q) : MI l G 2 σ yX12_heldAt cX12_heldAt 5 (some .int) 1 0 0 [va_rf (some a0), .int x1, .int x2] Q := by
  unfold w_X12_heldAt at hw
  refine m_start RX12 (by decide) htr ht (Nat.le_of_ble_eq_true rfl) rfl (lv := [(0, va_rf (some a0)), (1, .int x1), (2, .int x2)]) (d := 2) (fun p e s m args below meth c X hr hin => ?_)
  refine v_iconst X 0 (gD D_X12_heldAt_0 0 rfl) (by decide) ?_
  refine v_istore_n X [(3, .int 0), (0, va_rf (some a0)), (1, .int x1), (2, .int x2)] (gD D_X12_heldAt_0 1 rfl) rfl (by decide) rfl ?_
  refine v_iconst X 0 (gD D_X12_heldAt_0 2 rfl) (by decide) ?_
  refine v_istore X [(4, .int 0), (3, .int 0), (0, va_rf (some a0)), (1, .int x1), (2, .int x2)] (gD D_X12_heldAt_0 3 rfl) (by decide) rfl ?_
  obtain ⟨f91, hw⟩ := hw
  exact v_sub [0] [2, 3, 4, 1, 0] rfl rfl (t_X12_heldAt_5 X hr hin htr  f91 a0 x1 x2 0 0 σ hw)
set_option maxRecDepth 100000 in
set_option maxHeartbeats 4000000 in
theorem c_X12_isGroup {l : Launch} {G : GX} (htr : l.stackTraces = false) {σ : St} {x0 : Int32} {Q : Int32 → St → Prop} (ht : tvOk σ []) (hw : w_X12_isGroup x0 σ Q) : MI l G 2 σ yX12_isGroup cX12_isGroup 1 (some .boolean) 1 0 0 [.int x0] Q := by
  unfold w_X12_isGroup at hw
  refine m_start RX12 (by decide) htr ht (Nat.le_of_ble_eq_true rfl) rfl (lv := [(0, .int x0)]) (d := 2) (fun p e s m args below meth c X hr hin => ?_)
  refine v_iload_n X 0 rfl (gD D_X12_isGroup_0 0 rfl) rfl ?_
  refine v_iconst X 0 (gD D_X12_isGroup_0 1 rfl) (by decide) ?_
  refine v_iconst X 3 (gD D_X12_isGroup_0 2 rfl) (by decide) ?_
  refine v_callSi X (As := [.int x0, .int 0, .int 3]) (rest := []) (nA := 3) 0 0 0 0 (fun ht => c_X12_isIn htr (ht.sub [] rfl) hw) (Or.inl rfl) lk_sRX12_183 (by decide +kernel) rfl rfl (by decide) (by decide) (by decide) rfl rfl (gD D_X12_isGroup_0 3 rfl) (fun x51 s52 hq _ _ => ?_)
  replace hw := hq
  clear hq
  exact v_zret X hr hw.1 hw.2 (gD D_X12_isGroup_0 4 rfl)
set_option maxRecDepth 100000 in
set_option maxHeartbeats 4000000 in
theorem t_X12_isInRing_23 {p : Program} {l : Launch} {e : Env} {s : State} {m : MethodId} {args : Array Value} {below : List Frame} {meth : Method} {c : Code} {G : GX} {σ0 : St} {mc ms : Nat} {Q : Int32 → St → Prop} (X : VC p l (rmD 1 mc ms) s m args meth c G 1 mc ms 4 RX12 cX12_isInRing) (hr : meth.sig.returnType = (some .boolean)) (hin : meth.name = yX12_isInRing.name) (htr : l.stackTraces = false) {K4 : Nat → Int32 → Int32 → Int32 → St → Prop} (hK4 : ∀ (a0 : Nat) (x1 : Int32) (x2 : Int32) (x3 : Int32) (σ : St), K4 a0 x1 x2 x3 σ → V p l e (rmD 1 mc ms) s m args below meth c (MQ below (va_Qi Q (gB G 2 σ0) (GA G)) args s mc ms (GA G)) G 2 σ0 mc ms 4 σ 0 0 [(some a0, 13)] 4 [(0, va_rf (some a0)), (1, .int x1), (2, .int x2), (3, .int x3)] []) : ∀ (a0 : Nat) (x1 : Int32) (x3 : Int32) (xs0 : Int32) (σ : St), w_X12_isInRing_23 Q K4 a0 x1 x3 xs0 σ → V p l e (rmD 1 mc ms) s m args below meth c (MQ below (va_Qi Q (gB G 2 σ0) (GA G)) args s mc ms (GA G)) G 2 σ0 mc ms 4 σ 0 0 [(some a0, 13)] 23 [(0, va_rf (some a0)), (1, .int x1), (3, .int x3)] [.int xs0] := by
  intro a0 x1 x3 xs0 σ hw
  unfold w_X12_isInRing_23 at hw
  refine v_istore_n X [(2, .int xs0), (0, va_rf (some a0)), (1, .int x1), (3, .int x3)] (gD D_X12_isInRing_0 15 rfl) rfl (by decide) rfl ?_
  refine v_iload_n X 0 rfl (gD D_X12_isInRing_0 16 rfl) rfl ?_
  refine v_iload_n X 2 rfl (gD D_X12_isInRing_0 17 rfl) rfl ?_
  refine v_icmp_ne X 31 (gD D_X12_isInRing_0 18 rfl) (by decide) (fun c55 => ?_) (fun c55 => ?_)
  · replace hw := hw.1 c55
    refine v_iinc X (x3 + 1) 3 rfl [(3, .int (x3 + 1)), (2, .int xs0), (0, va_rf (some a0)), (1, .int x1)] (gD D_X12_isInRing_0 21 rfl) rfl (by decide) rfl ?_
    refine v_goto X 4 (gD D_X12_isInRing_0 22 rfl) (by decide) ?_
    exact v_sub [0] [2, 3, 1, 0] rfl rfl (hK4 a0 x1 xs0 (x3 + 1) σ hw)
  · replace hw := hw.2 c55
    refine v_iconst X 1 (gD D_X12_isInRing_0 19 rfl) (by decide) ?_
    exact v_zret X hr (by decide) hw (gD D_X12_isInRing_0 20 rfl)
set_option maxRecDepth 100000 in
set_option maxHeartbeats 4000000 in
theorem t_X12_isInRing_4 {p : Program} {l : Launch} {e : Env} {s : State} {m : MethodId} {args : Array Value} {below : List Frame} {meth : Method} {c : Code} {G : GX} {σ0 : St} {mc ms : Nat} {Q : Int32 → St → Prop} (X : VC p l (rmD 1 mc ms) s m args meth c G 1 mc ms 4 RX12 cX12_isInRing) (hr : meth.sig.returnType = (some .boolean)) (hin : meth.name = yX12_isInRing.name) (htr : l.stackTraces = false) : ∀ (f : Nat) (a0 : Nat) (x1 : Int32) (x2 : Int32) (x3 : Int32) (σ : St), w_X12_isInRing_4 Q  f a0 x1 x2 x3 σ → V p l e (rmD 1 mc ms) s m args below meth c (MQ below (va_Qi Q (gB G 2 σ0) (GA G)) args s mc ms (GA G)) G 2 σ0 mc ms 4 σ 0 0 [(some a0, 13)] 4 [(0, va_rf (some a0)), (1, .int x1), (2, .int x2), (3, .int x3)] [] := by
  intro f
  induction f with
  | zero => intro a0 x1 x2 x3 σ hw; exact hw.elim
  | succ f ih =>
    intro a0 x1 x2 x3 σ hw
    unfold w_X12_isInRing_4 at hw
    refine v_iload_n X 3 rfl (gD D_X12_isInRing_0 4 rfl) rfl ?_
    refine v_iconst X 3 (gD D_X12_isInRing_0 5 rfl) (by decide) ?_
    refine v_icmp_ge X 37 (gD D_X12_isInRing_0 6 rfl) (by decide) (fun c51 => ?_) (fun c51 => ?_)
    · replace hw := hw.1 c51
      refine v_iconst X 0 (gD D_X12_isInRing_0 23 rfl) (by decide) ?_
      exact v_zret X hr (by decide) hw (gD D_X12_isInRing_0 24 rfl)
    · replace hw := hw.2 c51
      refine v_iload_n X 2 rfl (gD D_X12_isInRing_0 7 rfl) rfl ?_
      refine v_iconst X (-1) (gD D_X12_isInRing_0 8 rfl) (by decide) ?_
      refine v_icmp_ne X 18 (gD D_X12_isInRing_0 9 rfl) (by decide) (fun c52 => ?_) (fun c52 => ?_)
      · replace hw := hw.1 c52
        refine v_aload_n X 0 rfl (gD D_X12_isInRing_0 12 rfl) rfl ?_
        refine v_iload_n X 2 rfl (gD D_X12_isInRing_0 13 rfl) rfl ?_
        refine v_callVi X (As := [.int x2]) (rest := []) (nA := 1) 0 0 0 0 (fun ht => c_X12_nextOf htr (ht.sub [0] rfl) hw) (Or.inl rfl) 0 (κ := 13) rfl (by decide) (rfl : gCl[12]? = some (RX12, TX12, 65)) lk_vRX12_350 (by decide +kernel) rfl rfl (by decide) (by decide) (by decide) rfl rfl (gD D_X12_isInRing_0 14 rfl) (fun x53 s54 hq _ _ => ?_)
        replace hw := hq
        clear hq
        exact v_sub [0] [0, 1, 3] rfl rfl (t_X12_isInRing_23 X hr hin htr ih a0 x1 x3 x53 s54 hw)
      · replace hw := hw.2 c52
        refine v_iconst X (-1) (gD D_X12_isInRing_0 10 rfl) (by decide) ?_
        refine v_goto X 23 (gD D_X12_isInRing_0 11 rfl) (by decide) ?_
        exact v_sub [0] [0, 1, 3] rfl rfl (t_X12_isInRing_23 X hr hin htr ih a0 x1 x3 (-1) σ hw)
set_option maxRecDepth 100000 in
set_option maxHeartbeats 4000000 in
theorem c_X12_isInRing {l : Launch} {G : GX} (htr : l.stackTraces = false) {σ : St} {a0 : Nat} {x1 : Int32} {Q : Int32 → St → Prop} (ht : tvOk σ [(some a0, 13)]) (hw : w_X12_isInRing a0 x1 σ Q) : MI l G 2 σ yX12_isInRing cX12_isInRing 4 (some .boolean) 1 0 0 [va_rf (some a0), .int x1] Q := by
  unfold w_X12_isInRing at hw
  refine m_start RX12 (by decide) htr ht (Nat.le_of_ble_eq_true rfl) rfl (lv := [(0, va_rf (some a0)), (1, .int x1)]) (d := 2) (fun p e s m args below meth c X hr hin => ?_)
  refine v_iload_n X 1 rfl (gD D_X12_isInRing_0 0 rfl) rfl ?_
  refine v_istore_n X [(2, .int x1), (0, va_rf (some a0)), (1, .int x1)] (gD D_X12_isInRing_0 1 rfl) rfl (by decide) rfl ?_
  refine v_iconst X 0 (gD D_X12_isInRing_0 2 rfl) (by decide) ?_
  refine v_istore_n X [(3, .int 0), (2, .int x1), (0, va_rf (some a0)), (1, .int x1)] (gD D_X12_isInRing_0 3 rfl) rfl (by decide) rfl ?_
  obtain ⟨f56, hw⟩ := hw
  exact v_sub [0] [2, 3, 1, 0] rfl rfl (t_X12_isInRing_4 X hr hin htr  f56 a0 x1 x1 0 σ hw)
set_option maxRecDepth 100000 in
set_option maxHeartbeats 4000000 in
theorem c_X12_isItem {l : Launch} {G : GX} (htr : l.stackTraces = false) {σ : St} {x0 : Int32} {Q : Int32 → St → Prop} (ht : tvOk σ []) (hw : w_X12_isItem x0 σ Q) : MI l G 2 σ yX12_isItem cX12_isItem 1 (some .boolean) 1 0 0 [.int x0] Q := by
  unfold w_X12_isItem at hw
  refine m_start RX12 (by decide) htr ht (Nat.le_of_ble_eq_true rfl) rfl (lv := [(0, .int x0)]) (d := 2) (fun p e s m args below meth c X hr hin => ?_)
  refine v_iload_n X 0 rfl (gD D_X12_isItem_0 0 rfl) rfl ?_
  refine v_iconst X 0 (gD D_X12_isItem_0 1 rfl) (by decide) ?_
  refine v_iconst X 5 (gD D_X12_isItem_0 2 rfl) (by decide) ?_
  refine v_callSi X (As := [.int x0, .int 0, .int 5]) (rest := []) (nA := 3) 0 0 0 0 (fun ht => c_X12_isIn htr (ht.sub [] rfl) hw) (Or.inl rfl) lk_sRX12_183 (by decide +kernel) rfl rfl (by decide) (by decide) (by decide) rfl rfl (gD D_X12_isItem_0 3 rfl) (fun x51 s52 hq _ _ => ?_)
  replace hw := hq
  clear hq
  exact v_zret X hr hw.1 hw.2 (gD D_X12_isItem_0 4 rfl)
set_option maxRecDepth 100000 in
set_option maxHeartbeats 4000000 in
theorem c_X12_isLot {l : Launch} {G : GX} (htr : l.stackTraces = false) {σ : St} {a0 : Nat} {x1 : Int32} {Q : Int32 → St → Prop} (ht : tvOk σ [(some a0, 13)]) (hw : w_X12_isLot a0 x1 σ Q) : MI l G 2 σ yX12_isLot cX12_isLot 2 (some .boolean) 1 0 0 [va_rf (some a0), .int x1] Q := by
  unfold w_X12_isLot at hw
  refine m_start RX12 (by decide) htr ht (Nat.le_of_ble_eq_true rfl) rfl (lv := [(0, va_rf (some a0)), (1, .int x1)]) (d := 2) (fun p e s m args below meth c X hr hin => ?_)
  refine v_iload_n X 1 rfl (gD D_X12_isLot_0 0 rfl) rfl ?_
  refine v_iconst X 0 (gD D_X12_isLot_0 1 rfl) (by decide) ?_
  refine v_aload_n X 0 rfl (gD D_X12_isLot_0 2 rfl) rfl ?_
  refine v_getI X RX12 TX12 65 13 12 (by decide) rfl gin12 15 1215 RX12 (Or.inl rfl) 0 rfl rfl (by decide) lk_fRX12_187 (gD D_X12_isLot_0 3 rfl) ?_
  refine v_iconst X 1 (gD D_X12_isLot_0 4 rfl) (by decide) ?_
  refine v_isub X (gD D_X12_isLot_0 5 rfl) ?_
  refine v_callSi X (As := [.int x1, .int 0, .int ((sI σ 1215 a0) - 1)]) (rest := []) (nA := 3) 0 0 0 0 (fun ht => c_X12_isIn htr (ht.sub [] rfl) hw) (Or.inl rfl) lk_sRX12_183 (by decide +kernel) rfl rfl (by decide) (by decide) (by decide) rfl rfl (gD D_X12_isLot_0 6 rfl) (fun x51 s52 hq _ _ => ?_)
  replace hw := hq
  clear hq
  exact v_zret X hr hw.1 hw.2 (gD D_X12_isLot_0 7 rfl)
set_option maxRecDepth 100000 in
set_option maxHeartbeats 4000000 in
theorem c_X12_isNotice {l : Launch} {G : GX} (htr : l.stackTraces = false) {σ : St} {a0 : Nat} {x1 : Int32} {Q : Int32 → St → Prop} (ht : tvOk σ [(some a0, 13)]) (hw : w_X12_isNotice a0 x1 σ Q) : MI l G 2 σ yX12_isNotice cX12_isNotice 2 (some .boolean) 1 0 0 [va_rf (some a0), .int x1] Q := by
  unfold w_X12_isNotice at hw
  refine m_start RX12 (by decide) htr ht (Nat.le_of_ble_eq_true rfl) rfl (lv := [(0, va_rf (some a0)), (1, .int x1)]) (d := 2) (fun p e s m args below meth c X hr hin => ?_)
  refine v_iload_n X 1 rfl (gD D_X12_isNotice_0 0 rfl) rfl ?_
  refine v_iconst X 0 (gD D_X12_isNotice_0 1 rfl) (by decide) ?_
  refine v_aload_n X 0 rfl (gD D_X12_isNotice_0 2 rfl) rfl ?_
  refine v_getI X RX12 TX12 65 13 12 (by decide) rfl gin12 22 1222 RX12 (Or.inl rfl) 0 rfl rfl (by decide) lk_fRX12_190 (gD D_X12_isNotice_0 3 rfl) ?_
  refine v_iconst X 1 (gD D_X12_isNotice_0 4 rfl) (by decide) ?_
  refine v_isub X (gD D_X12_isNotice_0 5 rfl) ?_
  refine v_callSi X (As := [.int x1, .int 0, .int ((sI σ 1222 a0) - 1)]) (rest := []) (nA := 3) 0 0 0 0 (fun ht => c_X12_isIn htr (ht.sub [] rfl) hw) (Or.inl rfl) lk_sRX12_183 (by decide +kernel) rfl rfl (by decide) (by decide) (by decide) rfl rfl (gD D_X12_isNotice_0 6 rfl) (fun x51 s52 hq _ _ => ?_)
  replace hw := hq
  clear hq
  exact v_zret X hr hw.1 hw.2 (gD D_X12_isNotice_0 7 rfl)
set_option maxRecDepth 100000 in
set_option maxHeartbeats 4000000 in
theorem c_X12_isOrder {l : Launch} {G : GX} (htr : l.stackTraces = false) {σ : St} {a0 : Nat} {x1 : Int32} {Q : Int32 → St → Prop} (ht : tvOk σ [(some a0, 13)]) (hw : w_X12_isOrder a0 x1 σ Q) : MI l G 2 σ yX12_isOrder cX12_isOrder 2 (some .boolean) 1 0 0 [va_rf (some a0), .int x1] Q := by
  unfold w_X12_isOrder at hw
  refine m_start RX12 (by decide) htr ht (Nat.le_of_ble_eq_true rfl) rfl (lv := [(0, va_rf (some a0)), (1, .int x1)]) (d := 2) (fun p e s m args below meth c X hr hin => ?_)
  refine v_iload_n X 1 rfl (gD D_X12_isOrder_0 0 rfl) rfl ?_
  refine v_iconst X 0 (gD D_X12_isOrder_0 1 rfl) (by decide) ?_
  refine v_aload_n X 0 rfl (gD D_X12_isOrder_0 2 rfl) rfl ?_
  refine v_getI X RX12 TX12 65 13 12 (by decide) rfl gin12 27 1227 RX12 (Or.inl rfl) 0 rfl rfl (by decide) lk_fRX12_193 (gD D_X12_isOrder_0 3 rfl) ?_
  refine v_iconst X 1 (gD D_X12_isOrder_0 4 rfl) (by decide) ?_
  refine v_isub X (gD D_X12_isOrder_0 5 rfl) ?_
  refine v_callSi X (As := [.int x1, .int 0, .int ((sI σ 1227 a0) - 1)]) (rest := []) (nA := 3) 0 0 0 0 (fun ht => c_X12_isIn htr (ht.sub [] rfl) hw) (Or.inl rfl) lk_sRX12_183 (by decide +kernel) rfl rfl (by decide) (by decide) (by decide) rfl rfl (gD D_X12_isOrder_0 6 rfl) (fun x51 s52 hq _ _ => ?_)
  replace hw := hq
  clear hq
  exact v_zret X hr hw.1 hw.2 (gD D_X12_isOrder_0 7 rfl)
set_option maxRecDepth 100000 in
set_option maxHeartbeats 4000000 in
theorem c_X12_isRobot {l : Launch} {G : GX} (htr : l.stackTraces = false) {σ : St} {x0 : Int32} {Q : Int32 → St → Prop} (ht : tvOk σ []) (hw : w_X12_isRobot x0 σ Q) : MI l G 2 σ yX12_isRobot cX12_isRobot 1 (some .boolean) 1 0 0 [.int x0] Q := by
  unfold w_X12_isRobot at hw
  refine m_start RX12 (by decide) htr ht (Nat.le_of_ble_eq_true rfl) rfl (lv := [(0, .int x0)]) (d := 2) (fun p e s m args below meth c X hr hin => ?_)
  refine v_iload_n X 0 rfl (gD D_X12_isRobot_0 0 rfl) rfl ?_
  refine v_iconst X 0 (gD D_X12_isRobot_0 1 rfl) (by decide) ?_
  refine v_iconst X 2 (gD D_X12_isRobot_0 2 rfl) (by decide) ?_
  refine v_callSi X (As := [.int x0, .int 0, .int 2]) (rest := []) (nA := 3) 0 0 0 0 (fun ht => c_X12_isIn htr (ht.sub [] rfl) hw) (Or.inl rfl) lk_sRX12_183 (by decide +kernel) rfl rfl (by decide) (by decide) (by decide) rfl rfl (gD D_X12_isRobot_0 3 rfl) (fun x51 s52 hq _ _ => ?_)
  replace hw := hq
  clear hq
  exact v_zret X hr hw.1 hw.2 (gD D_X12_isRobot_0 4 rfl)
set_option maxRecDepth 100000 in
set_option maxHeartbeats 4000000 in
theorem c_X12_isSlot {l : Launch} {G : GX} (htr : l.stackTraces = false) {σ : St} {x0 : Int32} {Q : Int32 → St → Prop} (ht : tvOk σ []) (hw : w_X12_isSlot x0 σ Q) : MI l G 2 σ yX12_isSlot cX12_isSlot 1 (some .boolean) 1 0 0 [.int x0] Q := by
  unfold w_X12_isSlot at hw
  refine m_start RX12 (by decide) htr ht (Nat.le_of_ble_eq_true rfl) rfl (lv := [(0, .int x0)]) (d := 2) (fun p e s m args below meth c X hr hin => ?_)
  refine v_iload_n X 0 rfl (gD D_X12_isSlot_0 0 rfl) rfl ?_
  refine v_iconst X 0 (gD D_X12_isSlot_0 1 rfl) (by decide) ?_
  refine v_bipush X 17 (gD D_X12_isSlot_0 2 rfl) (by decide) ?_
  refine v_callSi X (As := [.int x0, .int 0, .int 17]) (rest := []) (nA := 3) 0 0 0 0 (fun ht => c_X12_isIn htr (ht.sub [] rfl) hw) (Or.inl rfl) lk_sRX12_183 (by decide +kernel) rfl rfl (by decide) (by decide) (by decide) rfl rfl (gD D_X12_isSlot_0 3 rfl) (fun x51 s52 hq _ _ => ?_)
  replace hw := hq
  clear hq
  exact v_zret X hr hw.1 hw.2 (gD D_X12_isSlot_0 4 rfl)
set_option maxRecDepth 100000 in
set_option maxHeartbeats 4000000 in
theorem c_X12_isTask {l : Launch} {G : GX} (htr : l.stackTraces = false) {σ : St} {a0 : Nat} {x1 : Int32} {Q : Int32 → St → Prop} (ht : tvOk σ [(some a0, 13)]) (hw : w_X12_isTask a0 x1 σ Q) : MI l G 2 σ yX12_isTask cX12_isTask 2 (some .boolean) 1 0 0 [va_rf (some a0), .int x1] Q := by
  unfold w_X12_isTask at hw
  refine m_start RX12 (by decide) htr ht (Nat.le_of_ble_eq_true rfl) rfl (lv := [(0, va_rf (some a0)), (1, .int x1)]) (d := 2) (fun p e s m args below meth c X hr hin => ?_)
  refine v_iload_n X 1 rfl (gD D_X12_isTask_0 0 rfl) rfl ?_
  refine v_iconst X 0 (gD D_X12_isTask_0 1 rfl) (by decide) ?_
  refine v_aload_n X 0 rfl (gD D_X12_isTask_0 2 rfl) rfl ?_
  refine v_getI X RX12 TX12 65 13 12 (by decide) rfl gin12 45 1245 RX12 (Or.inl rfl) 0 rfl rfl (by decide) lk_fRX12_196 (gD D_X12_isTask_0 3 rfl) ?_
  refine v_iconst X 1 (gD D_X12_isTask_0 4 rfl) (by decide) ?_
  refine v_isub X (gD D_X12_isTask_0 5 rfl) ?_
  refine v_callSi X (As := [.int x1, .int 0, .int ((sI σ 1245 a0) - 1)]) (rest := []) (nA := 3) 0 0 0 0 (fun ht => c_X12_isIn htr (ht.sub [] rfl) hw) (Or.inl rfl) lk_sRX12_183 (by decide +kernel) rfl rfl (by decide) (by decide) (by decide) rfl rfl (gD D_X12_isTask_0 6 rfl) (fun x51 s52 hq _ _ => ?_)
  replace hw := hq
  clear hq
  exact v_zret X hr hw.1 hw.2 (gD D_X12_isTask_0 7 rfl)
set_option maxRecDepth 100000 in
set_option maxHeartbeats 4000000 in
theorem t_X12_keeps_31 {p : Program} {l : Launch} {e : Env} {s : State} {m : MethodId} {args : Array Value} {below : List Frame} {meth : Method} {c : Code} {G : GX} {σ0 : St} {mc ms : Nat} {Q : Int32 → St → Prop} (X : VC p l (rmD 1 mc ms) s m args meth c G 1 mc ms 3 RX12 cX12_keeps) (hr : meth.sig.returnType = (some .int)) (hin : meth.name = yX12_keeps.name) (htr : l.stackTraces = false) : ∀ (a0 : Nat) (x1 : Int32) (σ : St), w_X12_keeps_31 Q  a0 x1 σ → V p l e (rmD 1 mc ms) s m args below meth c (MQ below (va_Qi Q (gB G 2 σ0) (GA G)) args s mc ms (GA G)) G 2 σ0 mc ms 3 σ 0 0 [(some a0, 13)] 31 [(0, va_rf (some a0)), (1, .int x1)] [] := by
  intro a0 x1 σ hw
  unfold w_X12_keeps_31 at hw
  refine v_aload_n X 0 rfl (gD D_X12_keeps_0 19 rfl) rfl ?_
  refine v_getR X RX12 TX12 65 13 12 (by decide) rfl gin12 51 1251 RX12 (Or.inl rfl) 0 21 rfl rfl rfl (by decide) lk_fRX12_137 (gD D_X12_keeps_0 20 rfl) (fun o64 eo64 => ?_)
  replace hw := hw o64 eo64
  refine v_iload_n X 1 rfl (gD D_X12_keeps_0 21 rfl) rfl ?_
  obtain ⟨a65, rfl, hw⟩ := hw
  obtain ⟨h66, hw⟩ := hw
  refine v_iald X 0 rfl (by decide) h66 (gD D_X12_keeps_0 22 rfl) ?_
  exact v_iret X hr hw (gD D_X12_keeps_0 23 rfl)
set_option maxRecDepth 100000 in
set_option maxHeartbeats 4000000 in
theorem c_X12_keeps {l : Launch} {G : GX} (htr : l.stackTraces = false) {σ : St} {a0 : Nat} {x1 : Int32} {x2 : Int32} {Q : Int32 → St → Prop} (ht : tvOk σ [(some a0, 13)]) (hw : w_X12_keeps a0 x1 x2 σ Q) : MI l G 2 σ yX12_keeps cX12_keeps 3 (some .int) 1 0 0 [va_rf (some a0), .int x1, .int x2] Q := by
  unfold w_X12_keeps at hw
  refine m_start RX12 (by decide) htr ht (Nat.le_of_ble_eq_true rfl) rfl (lv := [(0, va_rf (some a0)), (1, .int x1), (2, .int x2)]) (d := 2) (fun p e s m args below meth c X hr hin => ?_)
  refine v_aload_n X 0 rfl (gD D_X12_keeps_0 0 rfl) rfl ?_
  refine v_getR X RX12 TX12 65 13 12 (by decide) rfl gin12 51 1251 RX12 (Or.inl rfl) 0 21 rfl rfl rfl (by decide) lk_fRX12_137 (gD D_X12_keeps_0 1 rfl) (fun o51 eo51 => ?_)
  replace hw := hw o51 eo51
  refine v_iload_n X 1 rfl (gD D_X12_keeps_0 2 rfl) rfl ?_
  refine v_aload_n X 0 rfl (gD D_X12_keeps_0 3 rfl) rfl ?_
  refine v_getR X RX12 TX12 65 13 12 (by decide) rfl gin12 51 1251 RX12 (Or.inl rfl) 1 21 rfl rfl rfl (by decide) lk_fRX12_137 (gD D_X12_keeps_0 4 rfl) (fun o52 eo52 => ?_)
  replace hw := hw o52 eo52
  refine v_iload_n X 1 rfl (gD D_X12_keeps_0 5 rfl) rfl ?_
  obtain ⟨a53, rfl, hw⟩ := hw
  obtain ⟨h54, hw⟩ := hw
  refine v_iald X 0 rfl (by decide) h54 (gD D_X12_keeps_0 6 rfl) ?_
  refine v_iload_n X 2 rfl (gD D_X12_keeps_0 7 rfl) rfl ?_
  refine v_callSi X (As := [.int (sA σ a53 x1.toNatClampNeg), .int x2]) (rest := [.int x1, va_rf o51]) (nA := 2) 0 0 0 0 (fun ht => c_X12_less htr (ht.sub [] rfl) hw) (Or.inl rfl) lk_sRX12_281 (by decide +kernel) rfl rfl (by simp [rf_cat, ct_i]) (by decide) (by decide) rfl rfl (gD D_X12_keeps_0 8 rfl) (fun x55 s56 hq _ _ => ?_)
  replace hw := hq
  clear hq
  obtain ⟨a57, rfl, hw⟩ := hw
  obtain ⟨h58, hw⟩ := hw
  refine v_iast X 1 rfl (by decide) (Or.inl rfl) h58 (gD D_X12_keeps_0 9 rfl) (fun s59 es59 => ?_)
  replace hw := hw s59 es59
  refine v_aload_n X 0 rfl (gD D_X12_keeps_0 10 rfl) rfl ?_
  refine v_getR X RX12 TX12 65 13 12 (by decide) rfl gin12 51 1251 RX12 (Or.inl rfl) 2 21 rfl rfl rfl (by decide) lk_fRX12_137 (gD D_X12_keeps_0 11 rfl) (fun o60 eo60 => ?_)
  replace hw := hw o60 eo60
  refine v_iload_n X 1 rfl (gD D_X12_keeps_0 12 rfl) rfl ?_
  obtain ⟨a61, rfl, hw⟩ := hw
  obtain ⟨h62, hw⟩ := hw
  refine v_iald X 0 rfl (by decide) h62 (gD D_X12_keeps_0 13 rfl) ?_
  refine v_if_ne X 31 (gD D_X12_keeps_0 14 rfl) (by decide) (fun c63 => ?_) (fun c63 => ?_)
  · replace hw := hw.1 c63
    exact v_sub [3] [0, 1] rfl rfl (t_X12_keeps_31 X hr hin htr  a0 x1 s59 hw)
  · replace hw := hw.2 c63
    refine v_aload_n X 0 rfl (gD D_X12_keeps_0 15 rfl) rfl ?_
    refine v_iload_n X 1 rfl (gD D_X12_keeps_0 16 rfl) rfl ?_
    refine v_iconst X 3 (gD D_X12_keeps_0 17 rfl) (by decide) ?_
    refine v_callVv X (As := [.int x1, .int 3]) (rest := []) (nA := 2) 0 0 0 0 (fun ht => c_X12_ends htr (ht.sub [3] rfl) hw) (Or.inl rfl) 3 (κ := 13) rfl (by decide) (rfl : gCl[12]? = some (RX12, TX12, 65)) lk_vRX12_344 (by decide +kernel) rfl rfl (by decide) (by decide) (by decide) rfl rfl (gD D_X12_keeps_0 18 rfl) (fun s68 hq _ _ => ?_)
    replace hw := hq
    clear hq
    exact v_sub [3] [0, 1] rfl rfl (t_X12_keeps_31 X hr hin htr  a0 x1 s68 hw)
set_option maxRecDepth 100000 in
set_option maxHeartbeats 4000000 in
theorem t_X12_makesPicks_70 {p : Program} {l : Launch} {e : Env} {s : State} {m : MethodId} {args : Array Value} {below : List Frame} {meth : Method} {c : Code} {G : GX} {σ0 : St} {mc ms : Nat} {Q : St → Prop} (X : VC p l (rmD 1 mc ms) s m args meth c G 1 mc ms 8 RX12 cX12_makesPicks) (hr : meth.sig.returnType = none) (hin : meth.name = yX12_makesPicks.name) (htr : l.stackTraces = false) {K3 : Nat → Int32 → Int32 → Int32 → Int32 → St → Prop} (hK3 : ∀ (a0 : Nat) (x1 : Int32) (x2 : Int32) (x3 : Int32) (x4 : Int32) (σ : St), K3 a0 x1 x2 x3 x4 σ → V p l e (rmD 1 mc ms) s m args below meth c (MQ below (va_Qv Q (gB G 2 σ0) (GA G)) args s mc ms (GA G)) G 2 σ0 mc ms 8 σ 0 0 [(some a0, 13)] 3 [(0, va_rf (some a0)), (1, .int x1), (2, .int x2), (3, .int x3), (4, .int x4)] []) {K13 : Nat → Int32 → Int32 → Int32 → Int32 → Int32 → St → Prop} (hK13 : ∀ (a0 : Nat) (x1 : Int32) (x2 : Int32) (x3 : Int32) (x4 : Int32) (x5 : Int32) (σ : St), K13 a0 x1 x2 x3 x4 x5 σ → V p l e (rmD 1 mc ms) s m args below meth c (MQ below (va_Qv Q (gB G 2 σ0) (GA G)) args s mc ms (GA G)) G 2 σ0 mc ms 8 σ 0 0 [(some a0, 13)] 13 [(0, va_rf (some a0)), (1, .int x1), (2, .int x2), (3, .int x3), (4, .int x4), (5, .int x5)] []) : ∀ (a0 : Nat) (x1 : Int32) (x2 : Int32) (x3 : Int32) (x4 : Int32) (x5 : Int32) (xs0 : Int32) (σ : St), w_X12_makesPicks_70 Q K3 K13 a0 x1 x2 x3 x4 x5 xs0 σ → V p l e (rmD 1 mc ms) s m args below meth c (MQ below (va_Qv Q (gB G 2 σ0) (GA G)) args s mc ms (GA G)) G 2 σ0 mc ms 8 σ 0 0 [(some a0, 13)] 70 [(0, va_rf (some a0)), (1, .int x1), (2, .int x2), (3, .int x3), (4, .int x4), (5, .int x5)] [.int xs0] := by
  intro a0 x1 x2 x3 x4 x5 xs0 σ hw
  unfold w_X12_makesPicks_70 at hw
  refine v_istore X [(6, .int xs0), (0, va_rf (some a0)), (1, .int x1), (2, .int x2), (3, .int x3), (4, .int x4), (5, .int x5)] (gD D_X12_makesPicks_0 38 rfl) (by decide) rfl ?_
  refine v_iload X 0 rfl (gD D_X12_makesPicks_0 39 rfl) ?_
  refine v_if_eq X 140 (gD D_X12_makesPicks_0 40 rfl) (by decide) (fun c57 => ?_) (fun c57 => ?_)
  · replace hw := hw.1 c57
    refine v_iinc X (x5 + 1) 6 rfl [(5, .int (x5 + 1)), (6, .int xs0), (0, va_rf (some a0)), (1, .int x1), (2, .int x2), (3, .int x3), (4, .int x4)] (gD D_X12_makesPicks_0 77 rfl) rfl (by decide) rfl ?_
    refine v_goto X 13 (gD D_X12_makesPicks_0 78 rfl) (by decide) ?_
    exact v_sub [0] [2, 3, 4, 5, 6, 0] rfl rfl (hK13 a0 x1 x2 x3 x4 (x5 + 1) σ hw)
  · replace hw := hw.2 c57
    refine v_aload_n X 1 rfl (gD D_X12_makesPicks_0 41 rfl) rfl ?_
    refine v_iload X 6 rfl (gD D_X12_makesPicks_0 42 rfl) ?_
    refine v_iload_n X 3 rfl (gD D_X12_makesPicks_0 43 rfl) rfl ?_
    refine v_callVi X (As := [.int x5, .int x2]) (rest := []) (nA := 2) 0 0 0 0 (fun ht => c_X12_isFor htr (ht.sub [0] rfl) hw) (Or.inl rfl) 0 (κ := 13) rfl (by decide) (rfl : gCl[12]? = some (RX12, TX12, 65)) lk_vRX12_302 (by decide +kernel) rfl rfl (by decide) (by decide) (by decide) rfl rfl (gD D_X12_makesPicks_0 44 rfl) (fun x58 s59 hq _ _ => ?_)
    replace hw := hq
    clear hq
    refine v_if_eq X 140 (gD D_X12_makesPicks_0 45 rfl) (by decide) (fun c60 => ?_) (fun c60 => ?_)
    · replace hw := hw.1 c60
      refine v_iinc X (x5 + 1) 6 rfl [(5, .int (x5 + 1)), (6, .int xs0), (0, va_rf (some a0)), (1, .int x1), (2, .int x2), (3, .int x3), (4, .int x4)] (gD D_X12_makesPicks_0 77 rfl) rfl (by decide) rfl ?_
      refine v_goto X 13 (gD D_X12_makesPicks_0 78 rfl) (by decide) ?_
      exact v_sub [0] [2, 3, 4, 5, 6, 0] rfl rfl (hK13 a0 x1 x2 x3 x4 (x5 + 1) s59 hw)
    · replace hw := hw.2 c60
      refine v_aload_n X 1 rfl (gD D_X12_makesPicks_0 46 rfl) rfl ?_
      refine v_iconst X 2 (gD D_X12_makesPicks_0 47 rfl) (by decide) ?_
      refine v_aload_n X 1 rfl (gD D_X12_makesPicks_0 48 rfl) rfl ?_
      refine v_getR X RX12 TX12 65 13 12 (by decide) rfl gin12 42 1242 RX12 (Or.inl rfl) 0 21 rfl rfl rfl (by decide) lk_fRX12_113 (gD D_X12_makesPicks_0 49 rfl) (fun o61 eo61 => ?_)
      replace hw := hw o61 eo61
      refine v_iload X 6 rfl (gD D_X12_makesPicks_0 50 rfl) ?_
      obtain ⟨a62, rfl, hw⟩ := hw
      obtain ⟨h63, hw⟩ := hw
      refine v_iald X 0 rfl (by decide) h63 (gD D_X12_makesPicks_0 51 rfl) ?_
      refine v_iload_n X 4 rfl (gD D_X12_makesPicks_0 52 rfl) rfl ?_
      refine v_bipush X 20 (gD D_X12_makesPicks_0 53 rfl) (by decide) ?_
      refine v_iload X 5 rfl (gD D_X12_makesPicks_0 54 rfl) ?_
      refine v_bipush X 8 (gD D_X12_makesPicks_0 55 rfl) (by decide) ?_
      refine v_irem X (gD D_X12_makesPicks_0 56 rfl) (by decide) ?_
      refine v_iadd X (gD D_X12_makesPicks_0 57 rfl) ?_
      refine v_aload_n X 1 rfl (gD D_X12_makesPicks_0 58 rfl) rfl ?_
      refine v_getR X RX12 TX12 65 13 12 (by decide) rfl gin12 40 1240 RX12 (Or.inl rfl) 1 21 rfl rfl rfl (by decide) lk_fRX12_107 (gD D_X12_makesPicks_0 59 rfl) (fun o64 eo64 => ?_)
      replace hw := hw o64 eo64
      refine v_iload X 6 rfl (gD D_X12_makesPicks_0 60 rfl) ?_
      obtain ⟨a65, rfl, hw⟩ := hw
      obtain ⟨h66, hw⟩ := hw
      refine v_iald X 0 rfl (by decide) h66 (gD D_X12_makesPicks_0 61 rfl) ?_
      refine v_aload_n X 1 rfl (gD D_X12_makesPicks_0 62 rfl) rfl ?_
      refine v_getR X RX12 TX12 65 13 12 (by decide) rfl gin12 43 1243 RX12 (Or.inl rfl) 2 21 rfl rfl rfl (by decide) lk_fRX12_116 (gD D_X12_makesPicks_0 63 rfl) (fun o67 eo67 => ?_)
      replace hw := hw o67 eo67
      refine v_iload X 6 rfl (gD D_X12_makesPicks_0 64 rfl) ?_
      obtain ⟨a68, rfl, hw⟩ := hw
      obtain ⟨h69, hw⟩ := hw
      refine v_iald X 0 rfl (by decide) h69 (gD D_X12_makesPicks_0 65 rfl) ?_
      refine v_callVi X (As := [.int 2, .int (sA s59 a62 x5.toNatClampNeg), .int x3, .int (20 + (x4 - x4 / 8 * 8)), .int (sA s59 a65 x5.toNatClampNeg), .int (sA s59 a68 x5.toNatClampNeg)]) (rest := []) (nA := 6) 0 0 0 0 (fun ht => c_X12_makes htr (ht.sub [3] rfl) hw) (Or.inl rfl) 3 (κ := 13) rfl (by decide) (rfl : gCl[12]? = some (RX12, TX12, 65)) lk_vRX12_274 (by decide +kernel) rfl rfl (by decide) (by decide) (by decide) rfl rfl (gD D_X12_makesPicks_0 66 rfl) (fun x70 s71 hq _ _ => ?_)
      replace hw := hq
      clear hq
      refine v_istore X [(7, .int x70), (6, .int xs0), (0, va_rf (some a0)), (1, .int x1), (2, .int x2), (3, .int x3), (4, .int x4), (5, .int x5)] (gD D_X12_makesPicks_0 67 rfl) (by decide) rfl ?_
      refine v_aload_n X 2 rfl (gD D_X12_makesPicks_0 68 rfl) rfl ?_
      refine v_getR X RX12 TX12 65 13 12 (by decide) rfl gin12 44 1244 RX12 (Or.inl rfl) 3 21 rfl rfl rfl (by decide) lk_fRX12_119 (gD D_X12_makesPicks_0 69 rfl) (fun o72 eo72 => ?_)
      replace hw := hw o72 eo72
      refine v_iload X 7 rfl (gD D_X12_makesPicks_0 70 rfl) ?_
      refine v_iload X 0 rfl (gD D_X12_makesPicks_0 71 rfl) ?_
      obtain ⟨a73, rfl, hw⟩ := hw
      obtain ⟨h74, hw⟩ := hw
      refine v_iast X 0 rfl (by decide) (Or.inl rfl) h74 (gD D_X12_makesPicks_0 72 rfl) (fun s75 es75 => ?_)
      replace hw := hw s75 es75
      refine v_aload_n X 2 rfl (gD D_X12_makesPicks_0 73 rfl) rfl ?_
      refine v_iload_n X 3 rfl (gD D_X12_makesPicks_0 74 rfl) rfl ?_
      refine v_iload X 0 rfl (gD D_X12_makesPicks_0 75 rfl) ?_
      refine v_callVv X (As := [.int x1, .int x70]) (rest := []) (nA := 2) 0 0 0 0 (fun ht => c_X12_gives htr (ht.sub [4] rfl) hw) (Or.inl rfl) 4 (κ := 13) rfl (by decide) (rfl : gCl[12]? = some (RX12, TX12, 65)) lk_vRX12_305 (by decide +kernel) rfl rfl (by decide) (by decide) (by decide) rfl rfl (gD D_X12_makesPicks_0 76 rfl) (fun s77 hq _ _ => ?_)
      replace hw := hq
      clear hq
      refine v_iinc X (x5 + 1) 7 rfl [(5, .int (x5 + 1)), (7, .int x70), (6, .int xs0), (0, va_rf (some a0)), (1, .int x1), (2, .int x2), (3, .int x3), (4, .int x4)] (gD D_X12_makesPicks_0 77 rfl) rfl (by decide) rfl ?_
      refine v_goto X 13 (gD D_X12_makesPicks_0 78 rfl) (by decide) ?_
      exact v_sub [4] [3, 4, 5, 6, 7, 0] rfl rfl (hK13 a0 x1 x2 x3 x4 (x5 + 1) s77 hw)
set_option maxRecDepth 100000 in
set_option maxHeartbeats 4000000 in
theorem t_X12_makesPicks_69 {p : Program} {l : Launch} {e : Env} {s : State} {m : MethodId} {args : Array Value} {below : List Frame} {meth : Method} {c : Code} {G : GX} {σ0 : St} {mc ms : Nat} {Q : St → Prop} (X : VC p l (rmD 1 mc ms) s m args meth c G 1 mc ms 8 RX12 cX12_makesPicks) (hr : meth.sig.returnType = none) (hin : meth.name = yX12_makesPicks.name) (htr : l.stackTraces = false) {K3 : Nat → Int32 → Int32 → Int32 → Int32 → St → Prop} (hK3 : ∀ (a0 : Nat) (x1 : Int32) (x2 : Int32) (x3 : Int32) (x4 : Int32) (σ : St), K3 a0 x1 x2 x3 x4 σ → V p l e (rmD 1 mc ms) s m args below meth c (MQ below (va_Qv Q (gB G 2 σ0) (GA G)) args s mc ms (GA G)) G 2 σ0 mc ms 8 σ 0 0 [(some a0, 13)] 3 [(0, va_rf (some a0)), (1, .int x1), (2, .int x2), (3, .int x3), (4, .int x4)] []) {K13 : Nat → Int32 → Int32 → Int32 → Int32 → Int32 → St → Prop} (hK13 : ∀ (a0 : Nat) (x1 : Int32) (x2 : Int32) (x3 : Int32) (x4 : Int32) (x5 : Int32) (σ : St), K13 a0 x1 x2 x3 x4 x5 σ → V p l e (rmD 1 mc ms) s m args below meth c (MQ below (va_Qv Q (gB G 2 σ0) (GA G)) args s mc ms (GA G)) G 2 σ0 mc ms 8 σ 0 0 [(some a0, 13)] 13 [(0, va_rf (some a0)), (1, .int x1), (2, .int x2), (3, .int x3), (4, .int x4), (5, .int x5)] []) : ∀ (a0 : Nat) (x1 : Int32) (x2 : Int32) (x3 : Int32) (x4 : Int32) (x5 : Int32) (σ : St), w_X12_makesPicks_69 Q K3 K13 a0 x1 x2 x3 x4 x5 σ → V p l e (rmD 1 mc ms) s m args below meth c (MQ below (va_Qv Q (gB G 2 σ0) (GA G)) args s mc ms (GA G)) G 2 σ0 mc ms 8 σ 0 0 [(some a0, 13)] 69 [(0, va_rf (some a0)), (1, .int x1), (2, .int x2), (3, .int x3), (4, .int x4), (5, .int x5)] [] := by
  intro a0 x1 x2 x3 x4 x5 σ hw
  unfold w_X12_makesPicks_69 at hw
  refine v_iconst X 0 (gD D_X12_makesPicks_0 37 rfl) (by decide) ?_
  exact v_sub [0] [0, 1, 2, 3, 4, 5] rfl rfl (t_X12_makesPicks_70 X hr hin htr hK3 hK13 a0 x1 x2 x3 x4 x5 0 σ hw)
set_option maxRecDepth 100000 in
set_option maxHeartbeats 4000000 in
theorem t_X12_makesPicks_13 {p : Program} {l : Launch} {e : Env} {s : State} {m : MethodId} {args : Array Value} {below : List Frame} {meth : Method} {c : Code} {G : GX} {σ0 : St} {mc ms : Nat} {Q : St → Prop} (X : VC p l (rmD 1 mc ms) s m args meth c G 1 mc ms 8 RX12 cX12_makesPicks) (hr : meth.sig.returnType = none) (hin : meth.name = yX12_makesPicks.name) (htr : l.stackTraces = false) {K3 : Nat → Int32 → Int32 → Int32 → Int32 → St → Prop} (hK3 : ∀ (a0 : Nat) (x1 : Int32) (x2 : Int32) (x3 : Int32) (x4 : Int32) (σ : St), K3 a0 x1 x2 x3 x4 σ → V p l e (rmD 1 mc ms) s m args below meth c (MQ below (va_Qv Q (gB G 2 σ0) (GA G)) args s mc ms (GA G)) G 2 σ0 mc ms 8 σ 0 0 [(some a0, 13)] 3 [(0, va_rf (some a0)), (1, .int x1), (2, .int x2), (3, .int x3), (4, .int x4)] []) : ∀ (f : Nat) (a0 : Nat) (x1 : Int32) (x2 : Int32) (x3 : Int32) (x4 : Int32) (x5 : Int32) (σ : St), w_X12_makesPicks_13 Q K3 f a0 x1 x2 x3 x4 x5 σ → V p l e (rmD 1 mc ms) s m args below meth c (MQ below (va_Qv Q (gB G 2 σ0) (GA G)) args s mc ms (GA G)) G 2 σ0 mc ms 8 σ 0 0 [(some a0, 13)] 13 [(0, va_rf (some a0)), (1, .int x1), (2, .int x2), (3, .int x3), (4, .int x4), (5, .int x5)] [] := by
  intro f
  induction f with
  | zero => intro a0 x1 x2 x3 x4 x5 σ hw; exact hw.elim
  | succ f ih =>
    intro a0 x1 x2 x3 x4 x5 σ hw
    unfold w_X12_makesPicks_13 at hw
    refine v_iload X 5 rfl (gD D_X12_makesPicks_0 7 rfl) ?_
    refine v_aload_n X 0 rfl (gD D_X12_makesPicks_0 8 rfl) rfl ?_
    refine v_getI X RX12 TX12 65 13 12 (by decide) rfl gin12 39 1239 RX12 (Or.inl rfl) 0 rfl rfl (by decide) lk_fRX12_203 (gD D_X12_makesPicks_0 9 rfl) ?_
    refine v_icmp_ge X 146 (gD D_X12_makesPicks_0 10 rfl) (by decide) (fun c52 => ?_) (fun c52 => ?_)
    · replace hw := hw.1 c52
      refine v_iinc X (x4 + 1) 4 rfl [(4, .int (x4 + 1)), (0, va_rf (some a0)), (1, .int x1), (2, .int x2), (3, .int x3), (5, .int x5)] (gD D_X12_makesPicks_0 79 rfl) rfl (by decide) rfl ?_
      refine v_goto X 3 (gD D_X12_makesPicks_0 80 rfl) (by decide) ?_
      exact v_sub [0] [1, 2, 3, 4, 0] rfl rfl (hK3 a0 x1 x2 x3 (x4 + 1) σ hw)
    · replace hw := hw.2 c52
      refine v_aload_n X 0 rfl (gD D_X12_makesPicks_0 11 rfl) rfl ?_
      refine v_getR X RX12 TX12 65 13 12 (by decide) rfl gin12 41 1241 RX12 (Or.inl rfl) 0 21 rfl rfl rfl (by decide) lk_fRX12_110 (gD D_X12_makesPicks_0 12 rfl) (fun o53 eo53 => ?_)
      replace hw := hw o53 eo53
      refine v_iload X 5 rfl (gD D_X12_makesPicks_0 13 rfl) ?_
      obtain ⟨a54, rfl, hw⟩ := hw
      obtain ⟨h55, hw⟩ := hw
      refine v_iald X 0 rfl (by decide) h55 (gD D_X12_makesPicks_0 14 rfl) ?_
      refine v_iload_n X 3 rfl (gD D_X12_makesPicks_0 15 rfl) rfl ?_
      refine v_icmp_ne X 69 (gD D_X12_makesPicks_0 16 rfl) (by decide) (fun c56 => ?_) (fun c56 => ?_)
      · replace hw := hw.1 c56
        exact v_sub [1] [0, 1, 2, 3, 4, 5] rfl rfl (t_X12_makesPicks_69 X hr hin htr hK3 ih a0 x1 x2 x3 x4 x5 σ hw)
      · replace hw := hw.2 c56
        refine v_aload_n X 0 rfl (gD D_X12_makesPicks_0 17 rfl) rfl ?_
        refine v_getR X RX12 TX12 65 13 12 (by decide) rfl gin12 42 1242 RX12 (Or.inl rfl) 1 21 rfl rfl rfl (by decide) lk_fRX12_113 (gD D_X12_makesPicks_0 18 rfl) (fun o78 eo78 => ?_)
        replace hw := hw o78 eo78
        refine v_iload X 5 rfl (gD D_X12_makesPicks_0 19 rfl) ?_
        obtain ⟨a79, rfl, hw⟩ := hw
        obtain ⟨h80, hw⟩ := hw
        refine v_iald X 0 rfl (by decide) h80 (gD D_X12_makesPicks_0 20 rfl) ?_
        refine v_iload X 4 rfl (gD D_X12_makesPicks_0 21 rfl) ?_
        refine v_bipush X 8 (gD D_X12_makesPicks_0 22 rfl) (by decide) ?_
        refine v_idiv X (gD D_X12_makesPicks_0 23 rfl) (by decide) ?_
        refine v_icmp_ne X 69 (gD D_X12_makesPicks_0 24 rfl) (by decide) (fun c81 => ?_) (fun c81 => ?_)
        · replace hw := hw.1 c81
          exact v_sub [2] [0, 1, 2, 3, 4, 5] rfl rfl (t_X12_makesPicks_69 X hr hin htr hK3 ih a0 x1 x2 x3 x4 x5 σ hw)
        · replace hw := hw.2 c81
          refine v_aload_n X 0 rfl (gD D_X12_makesPicks_0 25 rfl) rfl ?_
          refine v_getR X RX12 TX12 65 13 12 (by decide) rfl gin12 40 1240 RX12 (Or.inl rfl) 2 21 rfl rfl rfl (by decide) lk_fRX12_107 (gD D_X12_makesPicks_0 26 rfl) (fun o82 eo82 => ?_)
          replace hw := hw o82 eo82
          refine v_iload X 5 rfl (gD D_X12_makesPicks_0 27 rfl) ?_
          obtain ⟨a83, rfl, hw⟩ := hw
          obtain ⟨h84, hw⟩ := hw
          refine v_iald X 0 rfl (by decide) h84 (gD D_X12_makesPicks_0 28 rfl) ?_
          refine v_iconst X 3 (gD D_X12_makesPicks_0 29 rfl) (by decide) ?_
          refine v_idiv X (gD D_X12_makesPicks_0 30 rfl) (by decide) ?_
          refine v_iload X 4 rfl (gD D_X12_makesPicks_0 31 rfl) ?_
          refine v_bipush X 8 (gD D_X12_makesPicks_0 32 rfl) (by decide) ?_
          refine v_irem X (gD D_X12_makesPicks_0 33 rfl) (by decide) ?_
          refine v_icmp_ne X 69 (gD D_X12_makesPicks_0 34 rfl) (by decide) (fun c85 => ?_) (fun c85 => ?_)
          · replace hw := hw.1 c85
            exact v_sub [3] [0, 1, 2, 3, 4, 5] rfl rfl (t_X12_makesPicks_69 X hr hin htr hK3 ih a0 x1 x2 x3 x4 x5 σ hw)
          · replace hw := hw.2 c85
            refine v_iconst X 1 (gD D_X12_makesPicks_0 35 rfl) (by decide) ?_
            refine v_goto X 70 (gD D_X12_makesPicks_0 36 rfl) (by decide) ?_
            exact v_sub [3] [0, 1, 2, 3, 4, 5] rfl rfl (t_X12_makesPicks_70 X hr hin htr hK3 ih a0 x1 x2 x3 x4 x5 1 σ hw)
set_option maxRecDepth 100000 in
set_option maxHeartbeats 4000000 in
theorem t_X12_makesPicks_3 {p : Program} {l : Launch} {e : Env} {s : State} {m : MethodId} {args : Array Value} {below : List Frame} {meth : Method} {c : Code} {G : GX} {σ0 : St} {mc ms : Nat} {Q : St → Prop} (X : VC p l (rmD 1 mc ms) s m args meth c G 1 mc ms 8 RX12 cX12_makesPicks) (hr : meth.sig.returnType = none) (hin : meth.name = yX12_makesPicks.name) (htr : l.stackTraces = false) : ∀ (f : Nat) (a0 : Nat) (x1 : Int32) (x2 : Int32) (x3 : Int32) (x4 : Int32) (σ : St), w_X12_makesPicks_3 Q  f a0 x1 x2 x3 x4 σ → V p l e (rmD 1 mc ms) s m args below meth c (MQ below (va_Qv Q (gB G 2 σ0) (GA G)) args s mc ms (GA G)) G 2 σ0 mc ms 8 σ 0 0 [(some a0, 13)] 3 [(0, va_rf (some a0)), (1, .int x1), (2, .int x2), (3, .int x3), (4, .int x4)] [] := by
  intro f
  induction f with
  | zero => intro a0 x1 x2 x3 x4 σ hw; exact hw.elim
  | succ f ih =>
    intro a0 x1 x2 x3 x4 σ hw
    unfold w_X12_makesPicks_3 at hw
    refine v_iload X 4 rfl (gD D_X12_makesPicks_0 2 rfl) ?_
    refine v_bipush X 96 (gD D_X12_makesPicks_0 3 rfl) (by decide) ?_
    refine v_icmp_ge X 152 (gD D_X12_makesPicks_0 4 rfl) (by decide) (fun c51 => ?_) (fun c51 => ?_)
    · replace hw := hw.1 c51
      exact v_vret X hr hw (gD D_X12_makesPicks_0 81 rfl)
    · replace hw := hw.2 c51
      refine v_iconst X 0 (gD D_X12_makesPicks_0 5 rfl) (by decide) ?_
      refine v_istore X [(5, .int 0), (0, va_rf (some a0)), (1, .int x1), (2, .int x2), (3, .int x3), (4, .int x4)] (gD D_X12_makesPicks_0 6 rfl) (by decide) rfl ?_
      obtain ⟨f86, hw⟩ := hw
      exact v_sub [0] [1, 2, 3, 4, 5, 0] rfl rfl (t_X12_makesPicks_13 X hr hin htr ih f86 a0 x1 x2 x3 x4 0 σ hw)
set_option maxRecDepth 100000 in
set_option maxHeartbeats 4000000 in
theorem c_X12_makesPicks {l : Launch} {G : GX} (htr : l.stackTraces = false) {σ : St} {a0 : Nat} {x1 : Int32} {x2 : Int32} {x3 : Int32} {Q : St → Prop} (ht : tvOk σ [(some a0, 13)]) (hw : w_X12_makesPicks a0 x1 x2 x3 σ Q) : MV l G 2 σ yX12_makesPicks cX12_makesPicks 8 1 0 0 [va_rf (some a0), .int x1, .int x2, .int x3] Q := by
  unfold w_X12_makesPicks at hw
  refine m_start RX12 (by decide) htr ht (Nat.le_of_ble_eq_true rfl) rfl (lv := [(0, va_rf (some a0)), (1, .int x1), (2, .int x2), (3, .int x3)]) (d := 2) (fun p e s m args below meth c X hr hin => ?_)
  refine v_iconst X 0 (gD D_X12_makesPicks_0 0 rfl) (by decide) ?_
  refine v_istore X [(4, .int 0), (0, va_rf (some a0)), (1, .int x1), (2, .int x2), (3, .int x3)] (gD D_X12_makesPicks_0 1 rfl) (by decide) rfl ?_
  obtain ⟨f87, hw⟩ := hw
  exact v_sub [0] [1, 2, 3, 4, 0] rfl rfl (t_X12_makesPicks_3 X hr hin htr  f87 a0 x1 x2 x3 0 σ hw)
set_option maxRecDepth 100000 in
set_option maxHeartbeats 4000000 in
theorem c_X12_moves {l : Launch} {G : GX} (htr : l.stackTraces = false) {σ : St} {a0 : Nat} {x1 : Int32} {x2 : Int32} {Q : St → Prop} (ht : tvOk σ [(some a0, 13)]) (hw : w_X12_moves a0 x1 x2 σ Q) : MV l G 2 σ yX12_moves cX12_moves 3 1 0 0 [va_rf (some a0), .int x1, .int x2] Q := by
  unfold w_X12_moves at hw
  refine m_start RX12 (by decide) htr ht (Nat.le_of_ble_eq_true rfl) rfl (lv := [(0, va_rf (some a0)), (1, .int x1), (2, .int x2)]) (d := 2) (fun p e s m args below meth c X hr hin => ?_)
  refine v_aload_n X 0 rfl (gD D_X12_moves_0 0 rfl) rfl ?_
  refine v_aload_n X 0 rfl (gD D_X12_moves_0 1 rfl) rfl ?_
  refine v_getR X RX12 TX12 65 13 12 (by decide) rfl gin12 48 1248 RX12 (Or.inl rfl) 0 21 rfl rfl rfl (by decide) lk_fRX12_128 (gD D_X12_moves_0 2 rfl) (fun o51 eo51 => ?_)
  replace hw := hw o51 eo51
  refine v_iload_n X 1 rfl (gD D_X12_moves_0 3 rfl) rfl ?_
  obtain ⟨a52, rfl, hw⟩ := hw
  obtain ⟨h53, hw⟩ := hw
  refine v_iald X 0 rfl (by decide) h53 (gD D_X12_moves_0 4 rfl) ?_
  refine v_aload_n X 0 rfl (gD D_X12_moves_0 5 rfl) rfl ?_
  refine v_getR X RX12 TX12 65 13 12 (by decide) rfl gin12 47 1247 RX12 (Or.inl rfl) 1 21 rfl rfl rfl (by decide) lk_fRX12_125 (gD D_X12_moves_0 6 rfl) (fun o54 eo54 => ?_)
  replace hw := hw o54 eo54
  refine v_iload_n X 1 rfl (gD D_X12_moves_0 7 rfl) rfl ?_
  obtain ⟨a55, rfl, hw⟩ := hw
  obtain ⟨h56, hw⟩ := hw
  refine v_iald X 0 rfl (by decide) h56 (gD D_X12_moves_0 8 rfl) ?_
  refine v_aload_n X 0 rfl (gD D_X12_moves_0 9 rfl) rfl ?_
  refine v_getR X RX12 TX12 65 13 12 (by decide) rfl gin12 51 1251 RX12 (Or.inl rfl) 2 21 rfl rfl rfl (by decide) lk_fRX12_137 (gD D_X12_moves_0 10 rfl) (fun o57 eo57 => ?_)
  replace hw := hw o57 eo57
  refine v_iload_n X 1 rfl (gD D_X12_moves_0 11 rfl) rfl ?_
  obtain ⟨a58, rfl, hw⟩ := hw
  obtain ⟨h59, hw⟩ := hw
  refine v_iald X 0 rfl (by decide) h59 (gD D_X12_moves_0 12 rfl) ?_
  refine v_ineg X (gD D_X12_moves_0 13 rfl) ?_
  refine v_callVv X (As := [.int (sA σ a52 x1.toNatClampNeg), .int (sA σ a55 x1.toNatClampNeg), .int (-(sA σ a58 x1.toNatClampNeg))]) (rest := []) (nA := 3) 0 0 0 0 (fun ht => c_X12_books htr (ht.sub [3] rfl) hw) (Or.inl rfl) 3 (κ := 13) rfl (by decide) (rfl : gCl[12]? = some (RX12, TX12, 65)) lk_vRX12_250 (by decide +kernel) rfl rfl (by decide) (by decide) (by decide) rfl rfl (gD D_X12_moves_0 14 rfl) (fun s61 hq _ _ => ?_)
  replace hw := hq
  clear hq
  refine v_aload_n X 0 rfl (gD D_X12_moves_0 15 rfl) rfl ?_
  refine v_aload_n X 0 rfl (gD D_X12_moves_0 16 rfl) rfl ?_
  refine v_getR X RX12 TX12 65 13 12 (by decide) rfl gin12 49 1249 RX12 (Or.inl rfl) 3 21 rfl rfl rfl (by decide) lk_fRX12_131 (gD D_X12_moves_0 17 rfl) (fun o62 eo62 => ?_)
  replace hw := hw o62 eo62
  refine v_iload_n X 1 rfl (gD D_X12_moves_0 18 rfl) rfl ?_
  obtain ⟨a63, rfl, hw⟩ := hw
  obtain ⟨h64, hw⟩ := hw
  refine v_iald X 0 rfl (by decide) h64 (gD D_X12_moves_0 19 rfl) ?_
  refine v_aload_n X 0 rfl (gD D_X12_moves_0 20 rfl) rfl ?_
  refine v_getR X RX12 TX12 65 13 12 (by decide) rfl gin12 47 1247 RX12 (Or.inl rfl) 4 21 rfl rfl rfl (by decide) lk_fRX12_125 (gD D_X12_moves_0 21 rfl) (fun o65 eo65 => ?_)
  replace hw := hw o65 eo65
  refine v_iload_n X 1 rfl (gD D_X12_moves_0 22 rfl) rfl ?_
  obtain ⟨a66, rfl, hw⟩ := hw
  obtain ⟨h67, hw⟩ := hw
  refine v_iald X 0 rfl (by decide) h67 (gD D_X12_moves_0 23 rfl) ?_
  refine v_aload_n X 0 rfl (gD D_X12_moves_0 24 rfl) rfl ?_
  refine v_getR X RX12 TX12 65 13 12 (by decide) rfl gin12 51 1251 RX12 (Or.inl rfl) 5 21 rfl rfl rfl (by decide) lk_fRX12_137 (gD D_X12_moves_0 25 rfl) (fun o68 eo68 => ?_)
  replace hw := hw o68 eo68
  refine v_iload_n X 1 rfl (gD D_X12_moves_0 26 rfl) rfl ?_
  obtain ⟨a69, rfl, hw⟩ := hw
  obtain ⟨h70, hw⟩ := hw
  refine v_iald X 0 rfl (by decide) h70 (gD D_X12_moves_0 27 rfl) ?_
  refine v_callVv X (As := [.int (sA s61 a63 x1.toNatClampNeg), .int (sA s61 a66 x1.toNatClampNeg), .int (sA s61 a69 x1.toNatClampNeg)]) (rest := []) (nA := 3) 0 0 0 0 (fun ht => c_X12_books htr (ht.sub [6] rfl) hw) (Or.inl rfl) 6 (κ := 13) rfl (by decide) (rfl : gCl[12]? = some (RX12, TX12, 65)) lk_vRX12_250 (by decide +kernel) rfl rfl (by decide) (by decide) (by decide) rfl rfl (gD D_X12_moves_0 28 rfl) (fun s72 hq _ _ => ?_)
  replace hw := hq
  clear hq
  refine v_aload_n X 0 rfl (gD D_X12_moves_0 29 rfl) rfl ?_
  refine v_dup X (gD D_X12_moves_0 30 rfl) (rf_cat _) ?_
  refine v_getI X RX12 TX12 65 13 12 (by decide) rfl gin12 2 1202 RX12 (Or.inl rfl) 6 rfl rfl (by decide) lk_fRX12_254 (gD D_X12_moves_0 31 rfl) ?_
  refine v_iload_n X 2 rfl (gD D_X12_moves_0 32 rfl) rfl ?_
  refine v_iadd X (gD D_X12_moves_0 33 rfl) ?_
  refine v_putI X RX12 TX12 65 13 12 (by decide) rfl gin12 2 1202 tyX12 tyX12_ok nmX12 RX12 (Or.inl rfl) 6 rfl .int (int_fit _) rfl (by decide) (Or.inl rfl) lk_fRX12_254 rfl rfl (gD D_X12_moves_0 34 rfl) (fun s73 es73 => ?_)
  replace hw := hw s73 es73
  refine v_aload_n X 0 rfl (gD D_X12_moves_0 35 rfl) rfl ?_
  refine v_iload_n X 1 rfl (gD D_X12_moves_0 36 rfl) rfl ?_
  refine v_iconst X 2 (gD D_X12_moves_0 37 rfl) (by decide) ?_
  refine v_callVv X (As := [.int x1, .int 2]) (rest := []) (nA := 2) 0 0 0 0 (fun ht => c_X12_ends htr (ht.sub [6] rfl) hw) (Or.inl rfl) 6 (κ := 13) rfl (by decide) (rfl : gCl[12]? = some (RX12, TX12, 65)) lk_vRX12_344 (by decide +kernel) rfl rfl (by decide) (by decide) (by decide) rfl rfl (gD D_X12_moves_0 38 rfl) (fun s75 hq _ _ => ?_)
  replace hw := hq
  clear hq
  refine v_aload_n X 0 rfl (gD D_X12_moves_0 39 rfl) rfl ?_
  refine v_callVv X (As := []) (rest := []) (nA := 0) 0 0 0 0 (fun ht => c_X12_tidies htr (ht.sub [6] rfl) hw) (Or.inl rfl) 6 (κ := 13) rfl (by decide) (rfl : gCl[12]? = some (RX12, TX12, 65)) lk_vRX12_341 (by decide +kernel) rfl rfl (by decide) (by decide) (by decide) rfl rfl (gD D_X12_moves_0 40 rfl) (fun s77 hq _ _ => ?_)
  replace hw := hq
  clear hq
  exact v_vret X hr hw (gD D_X12_moves_0 41 rfl)
set_option maxRecDepth 100000 in
set_option maxHeartbeats 4000000 in
theorem t_X12_order_40 {p : Program} {l : Launch} {e : Env} {s : State} {m : MethodId} {args : Array Value} {below : List Frame} {meth : Method} {c : Code} {G : GX} {σ0 : St} {mc ms : Nat} {Q : Int32 → St → Prop} (X : VC p l (rmD 1 mc ms) s m args meth c G 1 mc ms 4 RX12 cX12_order) (hr : meth.sig.returnType = (some .int)) (hin : meth.name = yX12_order.name) (htr : l.stackTraces = false) : ∀ (a0 : Nat) (x1 : Int32) (x2 : Int32) (x3 : Int32) (as0 : Nat) (xs1 : Int32) (σ : St), w_X12_order_40 Q  a0 x1 x2 x3 as0 xs1 σ → V p l e (rmD 1 mc ms) s m args below meth c (MQ below (va_Qi Q (gB G 2 σ0) (GA G)) args s mc ms (GA G)) G 2 σ0 mc ms 4 σ 0 0 [(some a0, 13), (some as0, 13)] 40 [(0, va_rf (some a0)), (1, .int x1), (2, .int x2), (3, .int x3)] [.int xs1, va_rf (some as0)] := by
  intro a0 x1 x2 x3 as0 xs1 σ hw
  unfold w_X12_order_40 at hw
  refine v_callVi X (As := [.int xs1]) (rest := []) (nA := 1) 0 0 0 0 (fun ht => c_X12_holds htr (ht.sub [1] rfl) hw) (Or.inl rfl) 1 (κ := 13) rfl (by decide) (rfl : gCl[12]? = some (RX12, TX12, 65)) lk_vRX12_223 (by decide +kernel) rfl rfl (by decide) (by decide) (by decide) rfl rfl (gD D_X12_order_0 20 rfl) (fun x54 s55 hq _ _ => ?_)
  replace hw := hq
  clear hq
  refine v_if_ne X 48 (gD D_X12_order_0 21 rfl) (by decide) (fun c56 => ?_) (fun c56 => ?_)
  · replace hw := hw.1 c56
    refine v_aload_n X 0 rfl (gD D_X12_order_0 24 rfl) rfl ?_
    refine v_getR X RX12 TX12 65 13 12 (by decide) rfl gin12 28 1228 RX12 (Or.inl rfl) 0 21 rfl rfl rfl (by decide) lk_fRX12_74 (gD D_X12_order_0 25 rfl) (fun o57 eo57 => ?_)
    replace hw := hw o57 eo57
    refine v_aload_n X 0 rfl (gD D_X12_order_0 26 rfl) rfl ?_
    refine v_getI X RX12 TX12 65 13 12 (by decide) rfl gin12 27 1227 RX12 (Or.inl rfl) 1 rfl rfl (by decide) lk_fRX12_193 (gD D_X12_order_0 27 rfl) ?_
    refine v_iload_n X 1 rfl (gD D_X12_order_0 28 rfl) rfl ?_
    obtain ⟨a58, rfl, hw⟩ := hw
    obtain ⟨h59, hw⟩ := hw
    refine v_iast X 0 rfl (by decide) (Or.inl rfl) h59 (gD D_X12_order_0 29 rfl) (fun s60 es60 => ?_)
    replace hw := hw s60 es60
    refine v_aload_n X 0 rfl (gD D_X12_order_0 30 rfl) rfl ?_
    refine v_getR X RX12 TX12 65 13 12 (by decide) rfl gin12 29 1229 RX12 (Or.inl rfl) 1 22 rfl rfl rfl (by decide) lk_fRX12_77 (gD D_X12_order_0 31 rfl) (fun o61 eo61 => ?_)
    replace hw := hw o61 eo61
    refine v_aload_n X 0 rfl (gD D_X12_order_0 32 rfl) rfl ?_
    refine v_getI X RX12 TX12 65 13 12 (by decide) rfl gin12 27 1227 RX12 (Or.inl rfl) 2 rfl rfl (by decide) lk_fRX12_193 (gD D_X12_order_0 33 rfl) ?_
    refine v_iload_n X 2 rfl (gD D_X12_order_0 34 rfl) rfl ?_
    obtain ⟨a62, rfl, hw⟩ := hw
    obtain ⟨h63, hw⟩ := hw
    obtain ⟨h65, hw⟩ := hw
    refine v_zast X 0 rfl rfl (Or.inl rfl) h63 h65 (gD D_X12_order_0 35 rfl) (fun s64 es64 => ?_)
    replace hw := hw s64 es64
    refine v_aload_n X 0 rfl (gD D_X12_order_0 36 rfl) rfl ?_
    refine v_getR X RX12 TX12 65 13 12 (by decide) rfl gin12 30 1230 RX12 (Or.inl rfl) 2 21 rfl rfl rfl (by decide) lk_fRX12_80 (gD D_X12_order_0 37 rfl) (fun o66 eo66 => ?_)
    replace hw := hw o66 eo66
    refine v_aload_n X 0 rfl (gD D_X12_order_0 38 rfl) rfl ?_
    refine v_getI X RX12 TX12 65 13 12 (by decide) rfl gin12 27 1227 RX12 (Or.inl rfl) 3 rfl rfl (by decide) lk_fRX12_193 (gD D_X12_order_0 39 rfl) ?_
    refine v_iload_n X 3 rfl (gD D_X12_order_0 40 rfl) rfl ?_
    obtain ⟨a67, rfl, hw⟩ := hw
    obtain ⟨h68, hw⟩ := hw
    refine v_iast X 0 rfl (by decide) (Or.inl rfl) h68 (gD D_X12_order_0 41 rfl) (fun s69 es69 => ?_)
    replace hw := hw s69 es69
    refine v_aload_n X 0 rfl (gD D_X12_order_0 42 rfl) rfl ?_
    refine v_dup X (gD D_X12_order_0 43 rfl) (rf_cat _) ?_
    refine v_getI X RX12 TX12 65 13 12 (by decide) rfl gin12 27 1227 RX12 (Or.inl rfl) 3 rfl rfl (by decide) lk_fRX12_193 (gD D_X12_order_0 44 rfl) ?_
    refine v_iconst X 1 (gD D_X12_order_0 45 rfl) (by decide) ?_
    refine v_iadd X (gD D_X12_order_0 46 rfl) ?_
    refine v_putI X RX12 TX12 65 13 12 (by decide) rfl gin12 27 1227 tyX12 tyX12_ok nmX12 RX12 (Or.inl rfl) 3 rfl .int (int_fit _) rfl (by decide) (Or.inl rfl) lk_fRX12_193 rfl rfl (gD D_X12_order_0 47 rfl) (fun s70 es70 => ?_)
    replace hw := hw s70 es70
    refine v_aload_n X 0 rfl (gD D_X12_order_0 48 rfl) rfl ?_
    refine v_getI X RX12 TX12 65 13 12 (by decide) rfl gin12 27 1227 RX12 (Or.inl rfl) 3 rfl rfl (by decide) lk_fRX12_193 (gD D_X12_order_0 49 rfl) ?_
    refine v_iconst X 1 (gD D_X12_order_0 50 rfl) (by decide) ?_
    refine v_isub X (gD D_X12_order_0 51 rfl) ?_
    exact v_iret X hr hw (gD D_X12_order_0 52 rfl)
  · replace hw := hw.2 c56
    refine v_iconst X 0 (gD D_X12_order_0 22 rfl) (by decide) ?_
    exact v_iret X hr hw (gD D_X12_order_0 23 rfl)
set_option maxRecDepth 100000 in
set_option maxHeartbeats 4000000 in
theorem c_X12_order {l : Launch} {G : GX} (htr : l.stackTraces = false) {σ : St} {a0 : Nat} {x1 : Int32} {x2 : Int32} {x3 : Int32} {Q : Int32 → St → Prop} (ht : tvOk σ [(some a0, 13)]) (hw : w_X12_order a0 x1 x2 x3 σ Q) : MI l G 2 σ yX12_order cX12_order 4 (some .int) 1 0 0 [va_rf (some a0), .int x1, .int x2, .int x3] Q := by
  unfold w_X12_order at hw
  refine m_start RX12 (by decide) htr ht (Nat.le_of_ble_eq_true rfl) rfl (lv := [(0, va_rf (some a0)), (1, .int x1), (2, .int x2), (3, .int x3)]) (d := 2) (fun p e s m args below meth c X hr hin => ?_)
  refine v_aload_n X 0 rfl (gD D_X12_order_0 0 rfl) rfl ?_
  refine v_iload_n X 1 rfl (gD D_X12_order_0 1 rfl) rfl ?_
  refine v_iconst X 0 (gD D_X12_order_0 2 rfl) (by decide) ?_
  refine v_bipush X 9 (gD D_X12_order_0 3 rfl) (by decide) ?_
  refine v_callSi X (As := [.int x1, .int 0, .int 9]) (rest := [va_rf (some a0)]) (nA := 3) 0 0 0 0 (fun ht => c_X12_isIn htr (ht.sub [] rfl) hw) (Or.inl rfl) lk_sRX12_183 (by decide +kernel) rfl rfl (by simp [rf_cat, ct_i]) (by decide) (by decide) rfl rfl (gD D_X12_order_0 4 rfl) (fun x51 s52 hq _ _ => ?_)
  replace hw := hq
  clear hq
  refine v_if_eq X 22 (gD D_X12_order_0 5 rfl) (by decide) (fun c53 => ?_) (fun c53 => ?_)
  · replace hw := hw.1 c53
    refine v_iconst X 1 (gD D_X12_order_0 11 rfl) (by decide) ?_
    refine v_goto X 40 (gD D_X12_order_0 12 rfl) (by decide) ?_
    exact v_sub [0, 0] [0, 1, 2, 3] rfl rfl (t_X12_order_40 X hr hin htr  a0 x1 x2 x3 a0 1 s52 hw)
  · replace hw := hw.2 c53
    refine v_iload_n X 3 rfl (gD D_X12_order_0 6 rfl) rfl ?_
    refine v_iconst X 0 (gD D_X12_order_0 7 rfl) (by decide) ?_
    refine v_sipush X 999 (gD D_X12_order_0 8 rfl) (by decide) ?_
    refine v_callSi X (As := [.int x3, .int 0, .int 999]) (rest := [va_rf (some a0)]) (nA := 3) 0 0 0 0 (fun ht => c_X12_isIn htr (ht.sub [] rfl) hw) (Or.inl rfl) lk_sRX12_183 (by decide +kernel) rfl rfl (by simp [rf_cat, ct_i]) (by decide) (by decide) rfl rfl (gD D_X12_order_0 9 rfl) (fun x71 s72 hq _ _ => ?_)
    replace hw := hq
    clear hq
    refine v_if_ne X 26 (gD D_X12_order_0 10 rfl) (by decide) (fun c73 => ?_) (fun c73 => ?_)
    · replace hw := hw.1 c73
      refine v_aload_n X 0 rfl (gD D_X12_order_0 13 rfl) rfl ?_
      refine v_getI X RX12 TX12 65 13 12 (by decide) rfl gin12 27 1227 RX12 (Or.inl rfl) 0 rfl rfl (by decide) lk_fRX12_193 (gD D_X12_order_0 14 rfl) ?_
      refine v_bipush X 8 (gD D_X12_order_0 15 rfl) (by decide) ?_
      refine v_icmp_ne X 39 (gD D_X12_order_0 16 rfl) (by decide) (fun c74 => ?_) (fun c74 => ?_)
      · replace hw := hw.1 c74
        refine v_iconst X 0 (gD D_X12_order_0 19 rfl) (by decide) ?_
        exact v_sub [0, 0] [0, 1, 2, 3] rfl rfl (t_X12_order_40 X hr hin htr  a0 x1 x2 x3 a0 0 s72 hw)
      · replace hw := hw.2 c74
        refine v_iconst X 2 (gD D_X12_order_0 17 rfl) (by decide) ?_
        refine v_goto X 40 (gD D_X12_order_0 18 rfl) (by decide) ?_
        exact v_sub [0, 0] [0, 1, 2, 3] rfl rfl (t_X12_order_40 X hr hin htr  a0 x1 x2 x3 a0 2 s72 hw)
    · replace hw := hw.2 c73
      refine v_iconst X 1 (gD D_X12_order_0 11 rfl) (by decide) ?_
      refine v_goto X 40 (gD D_X12_order_0 12 rfl) (by decide) ?_
      exact v_sub [0, 0] [0, 1, 2, 3] rfl rfl (t_X12_order_40 X hr hin htr  a0 x1 x2 x3 a0 1 s72 hw)
set_option maxRecDepth 100000 in
set_option maxHeartbeats 4000000 in
theorem t_X12_packs_144 {p : Program} {l : Launch} {e : Env} {s : State} {m : MethodId} {args : Array Value} {below : List Frame} {meth : Method} {c : Code} {G : GX} {σ0 : St} {mc ms : Nat} {Q : Int32 → St → Prop} (X : VC p l (rmD 1 mc ms) s m args meth c G 1 mc ms 7 RX12 cX12_packs) (hr : meth.sig.returnType = (some .int)) (hin : meth.name = yX12_packs.name) (htr : l.stackTraces = false) {K33 : Nat → Int32 → Int32 → St → Prop} (hK33 : ∀ (a0 : Nat) (x2 : Int32) (x3 : Int32) (σ : St), K33 a0 x2 x3 σ → V p l e (rmD 1 mc ms) s m args below meth c (MQ below (va_Qi Q (gB G 2 σ0) (GA G)) args s mc ms (GA G)) G 2 σ0 mc ms 7 σ 0 0 [(some a0, 13)] 33 [(0, va_rf (some a0)), (2, .int x2), (3, .int x3)] []) {K48 : Nat → Int32 → Int32 → Int32 → Int32 → St → Prop} (hK48 : ∀ (a0 : Nat) (x2 : Int32) (x3 : Int32) (x4 : Int32) (x5 : Int32) (σ : St), K48 a0 x2 x3 x4 x5 σ → V p l e (rmD 1 mc ms) s m args below meth c (MQ below (va_Qi Q (gB G 2 σ0) (GA G)) args s mc ms (GA G)) G 2 σ0 mc ms 7 σ 0 0 [(some a0, 13)] 48 [(0, va_rf (some a0)), (2, .int x2), (3, .int x3), (4, .int x4), (5, .int x5)] []) : ∀ (a0 : Nat) (x2 : Int32) (x3 : Int32) (x4 : Int32) (x5 : Int32) (x6 : Int32) (σ : St), w_X12_packs_144 Q K33 K48 a0 x2 x3 x4 x5 x6 σ → V p l e (rmD 1 mc ms) s m args below meth c (MQ below (va_Qi Q (gB G 2 σ0) (GA G)) args s mc ms (GA G)) G 2 σ0 mc ms 7 σ 0 0 [(some a0, 13)] 144 [(0, va_rf (some a0)), (2, .int x2), (3, .int x3), (4, .int x4), (5, .int x5), (6, .int x6)] [] := by
  intro a0 x2 x3 x4 x5 x6 σ hw
  unfold w_X12_packs_144 at hw
  refine v_aload_n X 0 rfl (gD D_X12_packs_0 82 rfl) rfl ?_
  refine v_getR X RX12 TX12 65 13 12 (by decide) rfl gin12 61 1261 RX12 (Or.inl rfl) 0 21 rfl rfl rfl (by decide) lk_fRX12_167 (gD D_X12_packs_0 83 rfl) (fun o64 eo64 => ?_)
  replace hw := hw o64 eo64
  refine v_iload X 5 rfl (gD D_X12_packs_0 84 rfl) ?_
  refine v_dup2 X (gD D_X12_packs_0 85 rfl) rfl (rf_cat _) ?_
  obtain ⟨a65, rfl, hw⟩ := hw
  obtain ⟨h66, hw⟩ := hw
  refine v_iald X 0 rfl (by decide) h66 (gD D_X12_packs_0 86 rfl) ?_
  refine v_aload_n X 0 rfl (gD D_X12_packs_0 87 rfl) rfl ?_
  refine v_getR X RX12 TX12 65 13 12 (by decide) rfl gin12 10 1210 RX12 (Or.inl rfl) 1 21 rfl rfl rfl (by decide) lk_fRX12_28 (gD D_X12_packs_0 88 rfl) (fun o67 eo67 => ?_)
  replace hw := hw o67 eo67
  refine v_iload X 3 rfl (gD D_X12_packs_0 89 rfl) ?_
  obtain ⟨a68, rfl, hw⟩ := hw
  obtain ⟨h69, hw⟩ := hw
  refine v_iald X 0 rfl (by decide) h69 (gD D_X12_packs_0 90 rfl) ?_
  refine v_iadd X (gD D_X12_packs_0 91 rfl) ?_
  obtain ⟨h70, hw⟩ := hw
  refine v_iast X 1 rfl (by decide) (Or.inl rfl) h70 (gD D_X12_packs_0 92 rfl) (fun s71 es71 => ?_)
  replace hw := hw s71 es71
  refine v_aload_n X 0 rfl (gD D_X12_packs_0 93 rfl) rfl ?_
  refine v_getR X RX12 TX12 65 13 12 (by decide) rfl gin12 62 1262 RX12 (Or.inl rfl) 2 21 rfl rfl rfl (by decide) lk_fRX12_170 (gD D_X12_packs_0 94 rfl) (fun o72 eo72 => ?_)
  replace hw := hw o72 eo72
  refine v_iload X 5 rfl (gD D_X12_packs_0 95 rfl) ?_
  refine v_dup2 X (gD D_X12_packs_0 96 rfl) rfl (rf_cat _) ?_
  obtain ⟨a73, rfl, hw⟩ := hw
  obtain ⟨h74, hw⟩ := hw
  refine v_iald X 0 rfl (by decide) h74 (gD D_X12_packs_0 97 rfl) ?_
  refine v_aload_n X 0 rfl (gD D_X12_packs_0 98 rfl) rfl ?_
  refine v_getR X RX12 TX12 65 13 12 (by decide) rfl gin12 11 1211 RX12 (Or.inl rfl) 3 21 rfl rfl rfl (by decide) lk_fRX12_31 (gD D_X12_packs_0 99 rfl) (fun o75 eo75 => ?_)
  replace hw := hw o75 eo75
  refine v_iload X 3 rfl (gD D_X12_packs_1 0 rfl) ?_
  obtain ⟨a76, rfl, hw⟩ := hw
  obtain ⟨h77, hw⟩ := hw
  refine v_iald X 0 rfl (by decide) h77 (gD D_X12_packs_1 1 rfl) ?_
  refine v_iadd X (gD D_X12_packs_1 2 rfl) ?_
  obtain ⟨h78, hw⟩ := hw
  refine v_iast X 1 rfl (by decide) (Or.inl rfl) h78 (gD D_X12_packs_1 3 rfl) (fun s79 es79 => ?_)
  replace hw := hw s79 es79
  refine v_aload_n X 0 rfl (gD D_X12_packs_1 4 rfl) rfl ?_
  refine v_getR X RX12 TX12 65 13 12 (by decide) rfl gin12 63 1263 RX12 (Or.inl rfl) 4 21 rfl rfl rfl (by decide) lk_fRX12_173 (gD D_X12_packs_1 5 rfl) (fun o80 eo80 => ?_)
  replace hw := hw o80 eo80
  refine v_iload X 5 rfl (gD D_X12_packs_1 6 rfl) ?_
  refine v_dup2 X (gD D_X12_packs_1 7 rfl) rfl (rf_cat _) ?_
  obtain ⟨a81, rfl, hw⟩ := hw
  obtain ⟨h82, hw⟩ := hw
  refine v_iald X 0 rfl (by decide) h82 (gD D_X12_packs_1 8 rfl) ?_
  refine v_iconst X 1 (gD D_X12_packs_1 9 rfl) (by decide) ?_
  refine v_iadd X (gD D_X12_packs_1 10 rfl) ?_
  obtain ⟨h83, hw⟩ := hw
  refine v_iast X 0 rfl (by decide) (Or.inl rfl) h83 (gD D_X12_packs_1 11 rfl) (fun s84 es84 => ?_)
  replace hw := hw s84 es84
  refine v_aload_n X 0 rfl (gD D_X12_packs_1 12 rfl) rfl ?_
  refine v_getR X RX12 TX12 65 13 12 (by decide) rfl gin12 64 1264 RX12 (Or.inl rfl) 5 21 rfl rfl rfl (by decide) lk_fRX12_176 (gD D_X12_packs_1 13 rfl) (fun o85 eo85 => ?_)
  replace hw := hw o85 eo85
  refine v_iload X 5 rfl (gD D_X12_packs_1 14 rfl) ?_
  refine v_dup2 X (gD D_X12_packs_1 15 rfl) rfl (rf_cat _) ?_
  obtain ⟨a86, rfl, hw⟩ := hw
  obtain ⟨h87, hw⟩ := hw
  refine v_iald X 0 rfl (by decide) h87 (gD D_X12_packs_1 16 rfl) ?_
  refine v_iconst X 1 (gD D_X12_packs_1 17 rfl) (by decide) ?_
  refine v_iload X 3 rfl (gD D_X12_packs_1 18 rfl) ?_
  refine v_ishl X (gD D_X12_packs_1 19 rfl) ?_
  refine v_ior X (gD D_X12_packs_1 20 rfl) ?_
  obtain ⟨h88, hw⟩ := hw
  refine v_iast X 0 rfl (by decide) (Or.inl rfl) h88 (gD D_X12_packs_1 21 rfl) (fun s89 es89 => ?_)
  replace hw := hw s89 es89
  refine v_iinc X (x5 + 1) 4 rfl [(5, .int (x5 + 1)), (0, va_rf (some a0)), (2, .int x2), (3, .int x3), (4, .int x4), (6, .int x6)] (gD D_X12_packs_1 22 rfl) rfl (by decide) rfl ?_
  refine v_goto X 48 (gD D_X12_packs_1 23 rfl) (by decide) ?_
  exact v_sub [6] [1, 2, 3, 4, 0] rfl rfl (hK48 a0 x2 x3 x4 (x5 + 1) s89 hw)
set_option maxRecDepth 100000 in
set_option maxHeartbeats 4000000 in
theorem t_X12_packs_103 {p : Program} {l : Launch} {e : Env} {s : State} {m : MethodId} {args : Array Value} {below : List Frame} {meth : Method} {c : Code} {G : GX} {σ0 : St} {mc ms : Nat} {Q : Int32 → St → Prop} (X : VC p l (rmD 1 mc ms) s m args meth c G 1 mc ms 7 RX12 cX12_packs) (hr : meth.sig.returnType = (some .int)) (hin : meth.name = yX12_packs.name) (htr : l.stackTraces = false) {K33 : Nat → Int32 → Int32 → St → Prop} (hK33 : ∀ (a0 : Nat) (x2 : Int32) (x3 : Int32) (σ : St), K33 a0 x2 x3 σ → V p l e (rmD 1 mc ms) s m args below meth c (MQ below (va_Qi Q (gB G 2 σ0) (GA G)) args s mc ms (GA G)) G 2 σ0 mc ms 7 σ 0 0 [(some a0, 13)] 33 [(0, va_rf (some a0)), (2, .int x2), (3, .int x3)] []) {K48 : Nat → Int32 → Int32 → Int32 → Int32 → St → Prop} (hK48 : ∀ (a0 : Nat) (x2 : Int32) (x3 : Int32) (x4 : Int32) (x5 : Int32) (σ : St), K48 a0 x2 x3 x4 x5 σ → V p l e (rmD 1 mc ms) s m args below meth c (MQ below (va_Qi Q (gB G 2 σ0) (GA G)) args s mc ms (GA G)) G 2 σ0 mc ms 7 σ 0 0 [(some a0, 13)] 48 [(0, va_rf (some a0)), (2, .int x2), (3, .int x3), (4, .int x4), (5, .int x5)] []) : ∀ (a0 : Nat) (x2 : Int32) (x3 : Int32) (x4 : Int32) (x5 : Int32) (x6 : Int32) (σ : St), w_X12_packs_103 Q K33 K48 a0 x2 x3 x4 x5 x6 σ → V p l e (rmD 1 mc ms) s m args below meth c (MQ below (va_Qi Q (gB G 2 σ0) (GA G)) args s mc ms (GA G)) G 2 σ0 mc ms 7 σ 0 0 [(some a0, 13)] 103 [(0, va_rf (some a0)), (2, .int x2), (3, .int x3), (4, .int x4), (5, .int x5), (6, .int x6)] [] := by
  intro a0 x2 x3 x4 x5 x6 σ hw
  unfold w_X12_packs_103 at hw
  refine v_iload X 5 rfl (gD D_X12_packs_0 58 rfl) ?_
  refine v_iload_n X 1 rfl (gD D_X12_packs_0 59 rfl) rfl ?_
  refine v_icmp_ne X 144 (gD D_X12_packs_0 60 rfl) (by decide) (fun c63 => ?_) (fun c63 => ?_)
  · replace hw := hw.1 c63
    exact v_sub [0] [0, 1, 2, 3, 4, 5] rfl rfl (t_X12_packs_144 X hr hin htr hK33 hK48 a0 x2 x3 x4 x5 x6 σ hw)
  · replace hw := hw.2 c63
    refine v_aload_n X 0 rfl (gD D_X12_packs_0 61 rfl) rfl ?_
    refine v_getR X RX12 TX12 65 13 12 (by decide) rfl gin12 61 1261 RX12 (Or.inl rfl) 0 21 rfl rfl rfl (by decide) lk_fRX12_167 (gD D_X12_packs_0 62 rfl) (fun o90 eo90 => ?_)
    replace hw := hw o90 eo90
    refine v_iload X 5 rfl (gD D_X12_packs_0 63 rfl) ?_
    refine v_iconst X 0 (gD D_X12_packs_0 64 rfl) (by decide) ?_
    obtain ⟨a91, rfl, hw⟩ := hw
    obtain ⟨h92, hw⟩ := hw
    refine v_iast X 0 rfl (by decide) (Or.inl rfl) h92 (gD D_X12_packs_0 65 rfl) (fun s93 es93 => ?_)
    replace hw := hw s93 es93
    refine v_aload_n X 0 rfl (gD D_X12_packs_0 66 rfl) rfl ?_
    refine v_getR X RX12 TX12 65 13 12 (by decide) rfl gin12 62 1262 RX12 (Or.inl rfl) 1 21 rfl rfl rfl (by decide) lk_fRX12_170 (gD D_X12_packs_0 67 rfl) (fun o94 eo94 => ?_)
    replace hw := hw o94 eo94
    refine v_iload X 5 rfl (gD D_X12_packs_0 68 rfl) ?_
    refine v_iconst X 0 (gD D_X12_packs_0 69 rfl) (by decide) ?_
    obtain ⟨a95, rfl, hw⟩ := hw
    obtain ⟨h96, hw⟩ := hw
    refine v_iast X 0 rfl (by decide) (Or.inl rfl) h96 (gD D_X12_packs_0 70 rfl) (fun s97 es97 => ?_)
    replace hw := hw s97 es97
    refine v_aload_n X 0 rfl (gD D_X12_packs_0 71 rfl) rfl ?_
    refine v_getR X RX12 TX12 65 13 12 (by decide) rfl gin12 63 1263 RX12 (Or.inl rfl) 2 21 rfl rfl rfl (by decide) lk_fRX12_173 (gD D_X12_packs_0 72 rfl) (fun o98 eo98 => ?_)
    replace hw := hw o98 eo98
    refine v_iload X 5 rfl (gD D_X12_packs_0 73 rfl) ?_
    refine v_iconst X 0 (gD D_X12_packs_0 74 rfl) (by decide) ?_
    obtain ⟨a99, rfl, hw⟩ := hw
    obtain ⟨h100, hw⟩ := hw
    refine v_iast X 0 rfl (by decide) (Or.inl rfl) h100 (gD D_X12_packs_0 75 rfl) (fun s101 es101 => ?_)
    replace hw := hw s101 es101
    refine v_aload_n X 0 rfl (gD D_X12_packs_0 76 rfl) rfl ?_
    refine v_getR X RX12 TX12 65 13 12 (by decide) rfl gin12 64 1264 RX12 (Or.inl rfl) 3 21 rfl rfl rfl (by decide) lk_fRX12_176 (gD D_X12_packs_0 77 rfl) (fun o102 eo102 => ?_)
    replace hw := hw o102 eo102
    refine v_iload X 5 rfl (gD D_X12_packs_0 78 rfl) ?_
    refine v_iconst X 0 (gD D_X12_packs_0 79 rfl) (by decide) ?_
    obtain ⟨a103, rfl, hw⟩ := hw
    obtain ⟨h104, hw⟩ := hw
    refine v_iast X 0 rfl (by decide) (Or.inl rfl) h104 (gD D_X12_packs_0 80 rfl) (fun s105 es105 => ?_)
    replace hw := hw s105 es105
    refine v_iinc X (x2 + 1) 1 rfl [(2, .int (x2 + 1)), (0, va_rf (some a0)), (3, .int x3), (4, .int x4), (5, .int x5), (6, .int x6)] (gD D_X12_packs_0 81 rfl) rfl (by decide) rfl ?_
    exact v_sub [4] [1, 0, 2, 3, 4, 5] rfl rfl (t_X12_packs_144 X hr hin htr hK33 hK48 a0 (x2 + 1) x3 x4 x5 x6 s105 hw)
set_option maxRecDepth 100000 in
set_option maxHeartbeats 4000000 in
theorem t_X12_packs_80 {p : Program} {l : Launch} {e : Env} {s : State} {m : MethodId} {args : Array Value} {below : List Frame} {meth : Method} {c : Code} {G : GX} {σ0 : St} {mc ms : Nat} {Q : Int32 → St → Prop} (X : VC p l (rmD 1 mc ms) s m args meth c G 1 mc ms 7 RX12 cX12_packs) (hr : meth.sig.returnType = (some .int)) (hin : meth.name = yX12_packs.name) (htr : l.stackTraces = false) {K33 : Nat → Int32 → Int32 → St → Prop} (hK33 : ∀ (a0 : Nat) (x2 : Int32) (x3 : Int32) (σ : St), K33 a0 x2 x3 σ → V p l e (rmD 1 mc ms) s m args below meth c (MQ below (va_Qi Q (gB G 2 σ0) (GA G)) args s mc ms (GA G)) G 2 σ0 mc ms 7 σ 0 0 [(some a0, 13)] 33 [(0, va_rf (some a0)), (2, .int x2), (3, .int x3)] []) {K48 : Nat → Int32 → Int32 → Int32 → Int32 → St → Prop} (hK48 : ∀ (a0 : Nat) (x2 : Int32) (x3 : Int32) (x4 : Int32) (x5 : Int32) (σ : St), K48 a0 x2 x3 x4 x5 σ → V p l e (rmD 1 mc ms) s m args below meth c (MQ below (va_Qi Q (gB G 2 σ0) (GA G)) args s mc ms (GA G)) G 2 σ0 mc ms 7 σ 0 0 [(some a0, 13)] 48 [(0, va_rf (some a0)), (2, .int x2), (3, .int x3), (4, .int x4), (5, .int x5)] []) : ∀ (f : Nat) (a0 : Nat) (x2 : Int32) (x3 : Int32) (x4 : Int32) (x5 : Int32) (x6 : Int32) (σ : St), w_X12_packs_80 Q K33 K48 f a0 x2 x3 x4 x5 x6 σ → V p l e (rmD 1 mc ms) s m args below meth c (MQ below (va_Qi Q (gB G 2 σ0) (GA G)) args s mc ms (GA G)) G 2 σ0 mc ms 7 σ 0 0 [(some a0, 13)] 80 [(0, va_rf (some a0)), (2, .int x2), (3, .int x3), (4, .int x4), (5, .int x5), (6, .int x6)] [] := by
  intro f
  induction f with
  | zero => intro a0 x2 x3 x4 x5 x6 σ hw; exact hw.elim
  | succ f ih =>
    intro a0 x2 x3 x4 x5 x6 σ hw
    unfold w_X12_packs_80 at hw
    refine v_iload X 5 rfl (gD D_X12_packs_0 48 rfl) ?_
    refine v_iload_n X 1 rfl (gD D_X12_packs_0 49 rfl) rfl ?_
    refine v_icmp_ge X 103 (gD D_X12_packs_0 50 rfl) (by decide) (fun c62 => ?_) (fun c62 => ?_)
    · replace hw := hw.1 c62
      exact v_sub [0] [0, 1, 2, 3, 4, 5] rfl rfl (t_X12_packs_103 X hr hin htr hK33 hK48 a0 x2 x3 x4 x5 x6 σ hw)
    · replace hw := hw.2 c62
      refine v_aload_n X 0 rfl (gD D_X12_packs_0 51 rfl) rfl ?_
      refine v_iload X 5 rfl (gD D_X12_packs_0 52 rfl) ?_
      refine v_iload X 3 rfl (gD D_X12_packs_0 53 rfl) ?_
      refine v_callVi X (As := [.int x6, .int x4]) (rest := []) (nA := 2) 0 0 0 0 (fun ht => c_X12_fitsInto htr (ht.sub [0] rfl) hw) (Or.inl rfl) 0 (κ := 13) rfl (by decide) (rfl : gCl[12]? = some (RX12, TX12, 65)) lk_vRX12_365 (by decide +kernel) rfl rfl (by decide) (by decide) (by decide) rfl rfl (gD D_X12_packs_0 54 rfl) (fun x106 s107 hq _ _ => ?_)
      replace hw := hq
      clear hq
      refine v_if_ne X 103 (gD D_X12_packs_0 55 rfl) (by decide) (fun c108 => ?_) (fun c108 => ?_)
      · replace hw := hw.1 c108
        exact v_sub [0] [0, 1, 2, 3, 4, 5] rfl rfl (t_X12_packs_103 X hr hin htr hK33 hK48 a0 x2 x3 x4 x5 x6 s107 hw)
      · replace hw := hw.2 c108
        refine v_iinc X (x6 + 1) 5 rfl [(6, .int (x6 + 1)), (0, va_rf (some a0)), (2, .int x2), (3, .int x3), (4, .int x4), (5, .int x5)] (gD D_X12_packs_0 56 rfl) rfl (by decide) rfl ?_
        refine v_goto X 80 (gD D_X12_packs_0 57 rfl) (by decide) ?_
        exact v_sub [0] [1, 2, 3, 4, 5, 0] rfl rfl (ih a0 x2 x3 x4 x5 (x6 + 1) s107 hw)
set_option maxRecDepth 100000 in
set_option maxHeartbeats 4000000 in
theorem t_X12_packs_48 {p : Program} {l : Launch} {e : Env} {s : State} {m : MethodId} {args : Array Value} {below : List Frame} {meth : Method} {c : Code} {G : GX} {σ0 : St} {mc ms : Nat} {Q : Int32 → St → Prop} (X : VC p l (rmD 1 mc ms) s m args meth c G 1 mc ms 7 RX12 cX12_packs) (hr : meth.sig.returnType = (some .int)) (hin : meth.name = yX12_packs.name) (htr : l.stackTraces = false) {K33 : Nat → Int32 → Int32 → St → Prop} (hK33 : ∀ (a0 : Nat) (x2 : Int32) (x3 : Int32) (σ : St), K33 a0 x2 x3 σ → V p l e (rmD 1 mc ms) s m args below meth c (MQ below (va_Qi Q (gB G 2 σ0) (GA G)) args s mc ms (GA G)) G 2 σ0 mc ms 7 σ 0 0 [(some a0, 13)] 33 [(0, va_rf (some a0)), (2, .int x2), (3, .int x3)] []) : ∀ (f : Nat) (a0 : Nat) (x2 : Int32) (x3 : Int32) (x4 : Int32) (x5 : Int32) (σ : St), w_X12_packs_48 Q K33 f a0 x2 x3 x4 x5 σ → V p l e (rmD 1 mc ms) s m args below meth c (MQ below (va_Qi Q (gB G 2 σ0) (GA G)) args s mc ms (GA G)) G 2 σ0 mc ms 7 σ 0 0 [(some a0, 13)] 48 [(0, va_rf (some a0)), (2, .int x2), (3, .int x3), (4, .int x4), (5, .int x5)] [] := by
  intro f
  induction f with
  | zero => intro a0 x2 x3 x4 x5 σ hw; exact hw.elim
  | succ f ih =>
    intro a0 x2 x3 x4 x5 σ hw
    unfold w_X12_packs_48 at hw
    refine v_iload X 4 rfl (gD D_X12_packs_0 30 rfl) ?_
    refine v_aload_n X 0 rfl (gD D_X12_packs_0 31 rfl) rfl ?_
    refine v_getR X RX12 TX12 65 13 12 (by decide) rfl gin12 60 1260 RX12 (Or.inl rfl) 0 21 rfl rfl rfl (by decide) lk_fRX12_164 (gD D_X12_packs_0 32 rfl) (fun o54 eo54 => ?_)
    replace hw := hw o54 eo54
    refine v_iload X 3 rfl (gD D_X12_packs_0 33 rfl) ?_
    obtain ⟨a55, rfl, hw⟩ := hw
    obtain ⟨h56, hw⟩ := hw
    refine v_iald X 0 rfl (by decide) h56 (gD D_X12_packs_0 34 rfl) ?_
    refine v_icmp_ge X 209 (gD D_X12_packs_0 35 rfl) (by decide) (fun c57 => ?_) (fun c57 => ?_)
    · replace hw := hw.1 c57
      refine v_iinc X (x3 + 1) 2 rfl [(3, .int (x3 + 1)), (0, va_rf (some a0)), (2, .int x2), (4, .int x4), (5, .int x5)] (gD D_X12_packs_1 24 rfl) rfl (by decide) rfl ?_
      refine v_goto X 33 (gD D_X12_packs_1 25 rfl) (by decide) ?_
      exact v_sub [1] [1, 2, 0] rfl rfl (hK33 a0 x2 (x3 + 1) σ hw)
    · replace hw := hw.2 c57
      refine v_aload_n X 0 rfl (gD D_X12_packs_0 36 rfl) rfl ?_
      refine v_getR X RX12 TX12 65 13 12 (by decide) rfl gin12 10 1210 RX12 (Or.inl rfl) 1 21 rfl rfl rfl (by decide) lk_fRX12_28 (gD D_X12_packs_0 37 rfl) (fun o58 eo58 => ?_)
      replace hw := hw o58 eo58
      refine v_iload X 3 rfl (gD D_X12_packs_0 38 rfl) ?_
      obtain ⟨a59, rfl, hw⟩ := hw
      obtain ⟨h60, hw⟩ := hw
      refine v_iald X 0 rfl (by decide) h60 (gD D_X12_packs_0 39 rfl) ?_
      refine v_bipush X 9 (gD D_X12_packs_0 40 rfl) (by decide) ?_
      refine v_iload_n X 2 rfl (gD D_X12_packs_0 41 rfl) rfl ?_
      refine v_bipush X 6 (gD D_X12_packs_0 42 rfl) (by decide) ?_
      refine v_idiv X (gD D_X12_packs_0 43 rfl) (by decide) ?_
      refine v_isub X (gD D_X12_packs_0 44 rfl) ?_
      refine v_icmp_ne X 209 (gD D_X12_packs_0 45 rfl) (by decide) (fun c61 => ?_) (fun c61 => ?_)
      · replace hw := hw.1 c61
        refine v_iinc X (x3 + 1) 2 rfl [(3, .int (x3 + 1)), (0, va_rf (some a0)), (2, .int x2), (4, .int x4), (5, .int x5)] (gD D_X12_packs_1 24 rfl) rfl (by decide) rfl ?_
        refine v_goto X 33 (gD D_X12_packs_1 25 rfl) (by decide) ?_
        exact v_sub [2] [1, 2, 0] rfl rfl (hK33 a0 x2 (x3 + 1) σ hw)
      · replace hw := hw.2 c61
        refine v_iconst X 0 (gD D_X12_packs_0 46 rfl) (by decide) ?_
        refine v_istore X [(6, .int 0), (0, va_rf (some a0)), (2, .int x2), (3, .int x3), (4, .int x4), (5, .int x5)] (gD D_X12_packs_0 47 rfl) (by decide) rfl ?_
        obtain ⟨f109, hw⟩ := hw
        exact v_sub [2] [1, 2, 3, 4, 5, 0] rfl rfl (t_X12_packs_80 X hr hin htr hK33 ih f109 a0 x2 x3 x4 x5 0 σ hw)
set_option maxRecDepth 100000 in
set_option maxHeartbeats 4000000 in
theorem t_X12_packs_33 {p : Program} {l : Launch} {e : Env} {s : State} {m : MethodId} {args : Array Value} {below : List Frame} {meth : Method} {c : Code} {G : GX} {σ0 : St} {mc ms : Nat} {Q : Int32 → St → Prop} (X : VC p l (rmD 1 mc ms) s m args meth c G 1 mc ms 7 RX12 cX12_packs) (hr : meth.sig.returnType = (some .int)) (hin : meth.name = yX12_packs.name) (htr : l.stackTraces = false) : ∀ (f : Nat) (a0 : Nat) (x2 : Int32) (x3 : Int32) (σ : St), w_X12_packs_33 Q  f a0 x2 x3 σ → V p l e (rmD 1 mc ms) s m args below meth c (MQ below (va_Qi Q (gB G 2 σ0) (GA G)) args s mc ms (GA G)) G 2 σ0 mc ms 7 σ 0 0 [(some a0, 13)] 33 [(0, va_rf (some a0)), (2, .int x2), (3, .int x3)] [] := by
  intro f
  induction f with
  | zero => intro a0 x2 x3 σ hw; exact hw.elim
  | succ f ih =>
    intro a0 x2 x3 σ hw
    unfold w_X12_packs_33 at hw
    refine v_iload_n X 2 rfl (gD D_X12_packs_0 21 rfl) rfl ?_
    refine v_bipush X 54 (gD D_X12_packs_0 22 rfl) (by decide) ?_
    refine v_icmp_ge X 215 (gD D_X12_packs_0 23 rfl) (by decide) (fun c52 => ?_) (fun c52 => ?_)
    · replace hw := hw.1 c52
      refine v_iload_n X 1 rfl (gD D_X12_packs_1 26 rfl) rfl ?_
      exact v_iret X hr hw (gD D_X12_packs_1 27 rfl)
    · replace hw := hw.2 c52
      refine v_iload_n X 2 rfl (gD D_X12_packs_0 24 rfl) rfl ?_
      refine v_bipush X 6 (gD D_X12_packs_0 25 rfl) (by decide) ?_
      refine v_irem X (gD D_X12_packs_0 26 rfl) (by decide) ?_
      refine v_topi (fun x53 ex53 => ?_)
      replace hw := hw x53 ex53
      refine v_istore X [(4, .int x53), (0, va_rf (some a0)), (2, .int x2), (3, .int x3)] (gD D_X12_packs_0 27 rfl) (by decide) rfl ?_
      refine v_iconst X 0 (gD D_X12_packs_0 28 rfl) (by decide) ?_
      refine v_istore X [(5, .int 0), (4, .int x53), (0, va_rf (some a0)), (2, .int x2), (3, .int x3)] (gD D_X12_packs_0 29 rfl) (by decide) rfl ?_
      obtain ⟨f110, hw⟩ := hw
      exact v_sub [0] [2, 3, 4, 1, 0] rfl rfl (t_X12_packs_48 X hr hin htr ih f110 a0 x2 x3 x53 0 σ hw)
set_option maxRecDepth 100000 in
set_option maxHeartbeats 4000000 in
theorem t_X12_packs_4 {p : Program} {l : Launch} {e : Env} {s : State} {m : MethodId} {args : Array Value} {below : List Frame} {meth : Method} {c : Code} {G : GX} {σ0 : St} {mc ms : Nat} {Q : Int32 → St → Prop} (X : VC p l (rmD 1 mc ms) s m args meth c G 1 mc ms 7 RX12 cX12_packs) (hr : meth.sig.returnType = (some .int)) (hin : meth.name = yX12_packs.name) (htr : l.stackTraces = false) : ∀ (f : Nat) (a0 : Nat) (x1 : Int32) (x2 : Int32) (x3 : Int32) (σ : St), w_X12_packs_4 Q  f a0 x1 x2 x3 σ → V p l e (rmD 1 mc ms) s m args below meth c (MQ below (va_Qi Q (gB G 2 σ0) (GA G)) args s mc ms (GA G)) G 2 σ0 mc ms 7 σ 0 0 [(some a0, 13)] 4 [(0, va_rf (some a0)), (1, .int x1), (2, .int x2), (3, .int x3)] [] := by
  intro f
  induction f with
  | zero => intro a0 x1 x2 x3 σ hw; exact hw.elim
  | succ f ih =>
    intro a0 x1 x2 x3 σ hw
    unfold w_X12_packs_4 at hw
    refine v_iload_n X 3 rfl (gD D_X12_packs_0 4 rfl) rfl ?_
    refine v_bipush X 6 (gD D_X12_packs_0 5 rfl) (by decide) ?_
    refine v_icmp_ge X 31 (gD D_X12_packs_0 6 rfl) (by decide) (fun c51 => ?_) (fun c51 => ?_)
    · replace hw := hw.1 c51
      refine v_iconst X 0 (gD D_X12_packs_0 19 rfl) (by decide) ?_
      refine v_istore_n X [(3, .int 0), (0, va_rf (some a0)), (1, .int x1), (2, .int x2)] (gD D_X12_packs_0 20 rfl) rfl (by decide) rfl ?_
      obtain ⟨f111, hw⟩ := hw
      exact v_sub [0] [1, 3, 0] rfl rfl (t_X12_packs_33 X hr hin htr  f111 a0 x2 0 σ hw)
    · replace hw := hw.2 c51
      refine v_aload_n X 0 rfl (gD D_X12_packs_0 7 rfl) rfl ?_
      refine v_getR X RX12 TX12 65 13 12 (by decide) rfl gin12 60 1260 RX12 (Or.inl rfl) 0 21 rfl rfl rfl (by decide) lk_fRX12_164 (gD D_X12_packs_0 8 rfl) (fun o112 eo112 => ?_)
      replace hw := hw o112 eo112
      refine v_iload_n X 3 rfl (gD D_X12_packs_0 9 rfl) rfl ?_
      refine v_aload_n X 0 rfl (gD D_X12_packs_0 10 rfl) rfl ?_
      refine v_bipush X 20 (gD D_X12_packs_0 11 rfl) (by decide) ?_
      refine v_iload_n X 1 rfl (gD D_X12_packs_0 12 rfl) rfl ?_
      refine v_iadd X (gD D_X12_packs_0 13 rfl) ?_
      refine v_iload_n X 3 rfl (gD D_X12_packs_0 14 rfl) rfl ?_
      refine v_callVi X (As := [.int (20 + x1), .int x3]) (rest := [.int x3, va_rf o112]) (nA := 2) 0 0 0 0 (fun ht => c_X12_itemIn htr (ht.sub [1] rfl) hw) (Or.inl rfl) 1 (κ := 13) rfl (by decide) (rfl : gCl[12]? = some (RX12, TX12, 65)) lk_vRX12_214 (by decide +kernel) rfl rfl (by simp [rf_cat, ct_i]) (by decide) (by decide) rfl rfl (gD D_X12_packs_0 15 rfl) (fun x113 s114 hq _ _ => ?_)
      replace hw := hq
      clear hq
      obtain ⟨a115, rfl, hw⟩ := hw
      obtain ⟨h116, hw⟩ := hw
      refine v_iast X 0 rfl (by decide) (Or.inl rfl) h116 (gD D_X12_packs_0 16 rfl) (fun s117 es117 => ?_)
      replace hw := hw s117 es117
      refine v_iinc X (x3 + 1) 3 rfl [(3, .int (x3 + 1)), (0, va_rf (some a0)), (1, .int x1), (2, .int x2)] (gD D_X12_packs_0 17 rfl) rfl (by decide) rfl ?_
      refine v_goto X 4 (gD D_X12_packs_0 18 rfl) (by decide) ?_
      exact v_sub [1] [1, 2, 3, 0] rfl rfl (ih a0 x1 x2 (x3 + 1) s117 hw)
set_option maxRecDepth 100000 in
set_option maxHeartbeats 4000000 in
theorem c_X12_packs {l : Launch} {G : GX} (htr : l.stackTraces = false) {σ : St} {a0 : Nat} {x1 : Int32} {Q : Int32 → St → Prop} (ht : tvOk σ [(some a0, 13)]) (hw : w_X12_packs a0 x1 σ Q) : MI l G 2 σ yX12_packs cX12_packs 7 (some .int) 1 0 0 [va_rf (some a0), .int x1] Q := by
  unfold w_X12_packs at hw
  refine m_start RX12 (by decide) htr ht (Nat.le_of_ble_eq_true rfl) rfl (lv := [(0, va_rf (some a0)), (1, .int x1)]) (d := 2) (fun p e s m args below meth c X hr hin => ?_)
  refine v_iconst X 0 (gD D_X12_packs_0 0 rfl) (by decide) ?_
  refine v_istore_n X [(2, .int 0), (0, va_rf (some a0)), (1, .int x1)] (gD D_X12_packs_0 1 rfl) rfl (by decide) rfl ?_
  refine v_iconst X 0 (gD D_X12_packs_0 2 rfl) (by decide) ?_
  refine v_istore_n X [(3, .int 0), (2, .int 0), (0, va_rf (some a0)), (1, .int x1)] (gD D_X12_packs_0 3 rfl) rfl (by decide) rfl ?_
  obtain ⟨f118, hw⟩ := hw
  exact v_sub [0] [2, 3, 1, 0] rfl rfl (t_X12_packs_4 X hr hin htr  f118 a0 x1 0 0 σ hw)
set_option maxRecDepth 100000 in
set_option maxHeartbeats 4000000 in
theorem t_X12_picks_4 {p : Program} {l : Launch} {e : Env} {s : State} {m : MethodId} {args : Array Value} {below : List Frame} {meth : Method} {c : Code} {G : GX} {σ0 : St} {mc ms : Nat} {Q : Int32 → St → Prop} (X : VC p l (rmD 1 mc ms) s m args meth c G 1 mc ms 4 RX12 cX12_picks) (hr : meth.sig.returnType = (some .int)) (hin : meth.name = yX12_picks.name) (htr : l.stackTraces = false) : ∀ (f : Nat) (a0 : Nat) (x1 : Int32) (x2 : Int32) (x3 : Int32) (σ : St), w_X12_picks_4 Q  f a0 x1 x2 x3 σ → V p l e (rmD 1 mc ms) s m args below meth c (MQ below (va_Qi Q (gB G 2 σ0) (GA G)) args s mc ms (GA G)) G 2 σ0 mc ms 4 σ 0 0 [(some a0, 13)] 4 [(0, va_rf (some a0)), (1, .int x1), (2, .int x2), (3, .int x3)] [] := by
  intro f
  induction f with
  | zero => intro a0 x1 x2 x3 σ hw; exact hw.elim
  | succ f ih =>
    intro a0 x1 x2 x3 σ hw
    unfold w_X12_picks_4 at hw
    refine v_iload_n X 3 rfl (gD D_X12_picks_0 4 rfl) rfl ?_
    refine v_aload_n X 0 rfl (gD D_X12_picks_0 5 rfl) rfl ?_
    refine v_getI X RX12 TX12 65 13 12 (by decide) rfl gin12 39 1239 RX12 (Or.inl rfl) 0 rfl rfl (by decide) lk_fRX12_203 (gD D_X12_picks_0 6 rfl) ?_
    refine v_icmp_ge X 35 (gD D_X12_picks_0 7 rfl) (by decide) (fun c51 => ?_) (fun c51 => ?_)
    · replace hw := hw.1 c51
      refine v_iload_n X 2 rfl (gD D_X12_picks_0 21 rfl) rfl ?_
      exact v_iret X hr hw (gD D_X12_picks_0 22 rfl)
    · replace hw := hw.2 c51
      refine v_iload_n X 2 rfl (gD D_X12_picks_0 8 rfl) rfl ?_
      refine v_aload_n X 0 rfl (gD D_X12_picks_0 9 rfl) rfl ?_
      refine v_iload_n X 3 rfl (gD D_X12_picks_0 10 rfl) rfl ?_
      refine v_iload_n X 1 rfl (gD D_X12_picks_0 11 rfl) rfl ?_
      refine v_callVi X (As := [.int x3, .int x1]) (rest := [.int x2]) (nA := 2) 0 0 0 0 (fun ht => c_X12_isFor htr (ht.sub [0] rfl) hw) (Or.inl rfl) 0 (κ := 13) rfl (by decide) (rfl : gCl[12]? = some (RX12, TX12, 65)) lk_vRX12_302 (by decide +kernel) rfl rfl (by simp [rf_cat, ct_i]) (by decide) (by decide) rfl rfl (gD D_X12_picks_0 12 rfl) (fun x52 s53 hq _ _ => ?_)
      replace hw := hq
      clear hq
      refine v_if_eq X 26 (gD D_X12_picks_0 13 rfl) (by decide) (fun c54 => ?_) (fun c54 => ?_)
      · replace hw := hw.1 c54
        refine v_iconst X 0 (gD D_X12_picks_0 16 rfl) (by decide) ?_
        refine v_iadd X (gD D_X12_picks_0 17 rfl) ?_
        refine v_topi (fun x55 ex55 => ?_)
        replace hw := hw x55 ex55
        refine v_istore_n X [(2, .int x55), (0, va_rf (some a0)), (1, .int x1), (3, .int x3)] (gD D_X12_picks_0 18 rfl) rfl (by decide) rfl ?_
        refine v_iinc X (x3 + 1) 3 rfl [(3, .int (x3 + 1)), (2, .int x55), (0, va_rf (some a0)), (1, .int x1)] (gD D_X12_picks_0 19 rfl) rfl (by decide) rfl ?_
        refine v_goto X 4 (gD D_X12_picks_0 20 rfl) (by decide) ?_
        exact v_sub [0] [2, 3, 1, 0] rfl rfl (ih a0 x1 x55 (x3 + 1) s53 hw)
      · replace hw := hw.2 c54
        refine v_iconst X 1 (gD D_X12_picks_0 14 rfl) (by decide) ?_
        refine v_goto X 27 (gD D_X12_picks_0 15 rfl) (by decide) ?_
        refine v_iadd X (gD D_X12_picks_0 17 rfl) ?_
        refine v_topi (fun x56 ex56 => ?_)
        replace hw := hw x56 ex56
        refine v_istore_n X [(2, .int x56), (0, va_rf (some a0)), (1, .int x1), (3, .int x3)] (gD D_X12_picks_0 18 rfl) rfl (by decide) rfl ?_
        refine v_iinc X (x3 + 1) 3 rfl [(3, .int (x3 + 1)), (2, .int x56), (0, va_rf (some a0)), (1, .int x1)] (gD D_X12_picks_0 19 rfl) rfl (by decide) rfl ?_
        refine v_goto X 4 (gD D_X12_picks_0 20 rfl) (by decide) ?_
        exact v_sub [0] [2, 3, 1, 0] rfl rfl (ih a0 x1 x56 (x3 + 1) s53 hw)
set_option maxRecDepth 100000 in
set_option maxHeartbeats 4000000 in
theorem c_X12_picks {l : Launch} {G : GX} (htr : l.stackTraces = false) {σ : St} {a0 : Nat} {x1 : Int32} {Q : Int32 → St → Prop} (ht : tvOk σ [(some a0, 13)]) (hw : w_X12_picks a0 x1 σ Q) : MI l G 2 σ yX12_picks cX12_picks 4 (some .int) 1 0 0 [va_rf (some a0), .int x1] Q := by
  unfold w_X12_picks at hw
  refine m_start RX12 (by decide) htr ht (Nat.le_of_ble_eq_true rfl) rfl (lv := [(0, va_rf (some a0)), (1, .int x1)]) (d := 2) (fun p e s m args below meth c X hr hin => ?_)
  refine v_iconst X 0 (gD D_X12_picks_0 0 rfl) (by decide) ?_
  refine v_istore_n X [(2, .int 0), (0, va_rf (some a0)), (1, .int x1)] (gD D_X12_picks_0 1 rfl) rfl (by decide) rfl ?_
  refine v_iconst X 0 (gD D_X12_picks_0 2 rfl) (by decide) ?_
  refine v_istore_n X [(3, .int 0), (2, .int 0), (0, va_rf (some a0)), (1, .int x1)] (gD D_X12_picks_0 3 rfl) rfl (by decide) rfl ?_
  obtain ⟨f57, hw⟩ := hw
  exact v_sub [0] [2, 3, 1, 0] rfl rfl (t_X12_picks_4 X hr hin htr  f57 a0 x1 0 0 σ hw)
set_option maxRecDepth 100000 in
set_option maxHeartbeats 4000000 in
theorem t_X12_roomHeld_4 {p : Program} {l : Launch} {e : Env} {s : State} {m : MethodId} {args : Array Value} {below : List Frame} {meth : Method} {c : Code} {G : GX} {σ0 : St} {mc ms : Nat} {Q : Int32 → St → Prop} (X : VC p l (rmD 1 mc ms) s m args meth c G 1 mc ms 4 RX12 cX12_roomHeld) (hr : meth.sig.returnType = (some .int)) (hin : meth.name = yX12_roomHeld.name) (htr : l.stackTraces = false) : ∀ (f : Nat) (a0 : Nat) (x1 : Int32) (x2 : Int32) (x3 : Int32) (σ : St), w_X12_roomHeld_4 Q  f a0 x1 x2 x3 σ → V p l e (rmD 1 mc ms) s m args below meth c (MQ below (va_Qi Q (gB G 2 σ0) (GA G)) args s mc ms (GA G)) G 2 σ0 mc ms 4 σ 0 0 [(some a0, 13)] 4 [(0, va_rf (some a0)), (1, .int x1), (2, .int x2), (3, .int x3)] [] := by
  intro f
  induction f with
  | zero => intro a0 x1 x2 x3 σ hw; exact hw.elim
  | succ f ih =>
    intro a0 x1 x2 x3 σ hw
    unfold w_X12_roomHeld_4 at hw
    refine v_iload_n X 3 rfl (gD D_X12_roomHeld_0 4 rfl) rfl ?_
    refine v_aload_n X 0 rfl (gD D_X12_roomHeld_0 5 rfl) rfl ?_
    refine v_getI X RX12 TX12 65 13 12 (by decide) rfl gin12 45 1245 RX12 (Or.inl rfl) 0 rfl rfl (by decide) lk_fRX12_196 (gD D_X12_roomHeld_0 6 rfl) ?_
    refine v_icmp_ge X 76 (gD D_X12_roomHeld_0 7 rfl) (by decide) (fun c51 => ?_) (fun c51 => ?_)
    · replace hw := hw.1 c51
      refine v_iload_n X 2 rfl (gD D_X12_roomHeld_0 46 rfl) rfl ?_
      exact v_iret X hr hw (gD D_X12_roomHeld_0 47 rfl)
    · replace hw := hw.2 c51
      refine v_iload_n X 2 rfl (gD D_X12_roomHeld_0 8 rfl) rfl ?_
      refine v_aload_n X 0 rfl (gD D_X12_roomHeld_0 9 rfl) rfl ?_
      refine v_iload_n X 3 rfl (gD D_X12_roomHeld_0 10 rfl) rfl ?_
      refine v_callVi X (As := [.int x3]) (rest := [.int x2]) (nA := 1) 0 0 0 0 (fun ht => c_X12_isOn htr (ht.sub [0] rfl) hw) (Or.inl rfl) 0 (κ := 13) rfl (by decide) (rfl : gCl[12]? = some (RX12, TX12, 65)) lk_vRX12_199 (by decide +kernel) rfl rfl (by simp [rf_cat, ct_i]) (by decide) (by decide) rfl rfl (gD D_X12_roomHeld_0 11 rfl) (fun x52 s53 hq _ _ => ?_)
      replace hw := hq
      clear hq
      refine v_if_eq X 67 (gD D_X12_roomHeld_0 12 rfl) (by decide) (fun c54 => ?_) (fun c54 => ?_)
      · replace hw := hw.1 c54
        refine v_iconst X 0 (gD D_X12_roomHeld_0 41 rfl) (by decide) ?_
        refine v_iadd X (gD D_X12_roomHeld_0 42 rfl) ?_
        refine v_topi (fun x55 ex55 => ?_)
        replace hw := hw x55 ex55
        refine v_istore_n X [(2, .int x55), (0, va_rf (some a0)), (1, .int x1), (3, .int x3)] (gD D_X12_roomHeld_0 43 rfl) rfl (by decide) rfl ?_
        refine v_iinc X (x3 + 1) 3 rfl [(3, .int (x3 + 1)), (2, .int x55), (0, va_rf (some a0)), (1, .int x1)] (gD D_X12_roomHeld_0 44 rfl) rfl (by decide) rfl ?_
        refine v_goto X 4 (gD D_X12_roomHeld_0 45 rfl) (by decide) ?_
        exact v_sub [0] [2, 3, 1, 0] rfl rfl (ih a0 x1 x55 (x3 + 1) s53 hw)
      · replace hw := hw.2 c54
        refine v_aload_n X 0 rfl (gD D_X12_roomHeld_0 13 rfl) rfl ?_
        refine v_getR X RX12 TX12 65 13 12 (by decide) rfl gin12 46 1246 RX12 (Or.inl rfl) 0 21 rfl rfl rfl (by decide) lk_fRX12_122 (gD D_X12_roomHeld_0 14 rfl) (fun o56 eo56 => ?_)
        replace hw := hw o56 eo56
        refine v_iload_n X 3 rfl (gD D_X12_roomHeld_0 15 rfl) rfl ?_
        obtain ⟨a57, rfl, hw⟩ := hw
        obtain ⟨h58, hw⟩ := hw
        refine v_iald X 0 rfl (by decide) h58 (gD D_X12_roomHeld_0 16 rfl) ?_
        refine v_iconst X 2 (gD D_X12_roomHeld_0 17 rfl) (by decide) ?_
        refine v_icmp_eq X 67 (gD D_X12_roomHeld_0 18 rfl) (by decide) (fun c59 => ?_) (fun c59 => ?_)
        · replace hw := hw.1 c59
          refine v_iconst X 0 (gD D_X12_roomHeld_0 41 rfl) (by decide) ?_
          refine v_iadd X (gD D_X12_roomHeld_0 42 rfl) ?_
          refine v_topi (fun x60 ex60 => ?_)
          replace hw := hw x60 ex60
          refine v_istore_n X [(2, .int x60), (0, va_rf (some a0)), (1, .int x1), (3, .int x3)] (gD D_X12_roomHeld_0 43 rfl) rfl (by decide) rfl ?_
          refine v_iinc X (x3 + 1) 3 rfl [(3, .int (x3 + 1)), (2, .int x60), (0, va_rf (some a0)), (1, .int x1)] (gD D_X12_roomHeld_0 44 rfl) rfl (by decide) rfl ?_
          refine v_goto X 4 (gD D_X12_roomHeld_0 45 rfl) (by decide) ?_
          exact v_sub [1] [2, 3, 1, 0] rfl rfl (ih a0 x1 x60 (x3 + 1) s53 hw)
        · replace hw := hw.2 c59
          refine v_aload_n X 0 rfl (gD D_X12_roomHeld_0 19 rfl) rfl ?_
          refine v_getR X RX12 TX12 65 13 12 (by decide) rfl gin12 49 1249 RX12 (Or.inl rfl) 1 21 rfl rfl rfl (by decide) lk_fRX12_131 (gD D_X12_roomHeld_0 20 rfl) (fun o61 eo61 => ?_)
          replace hw := hw o61 eo61
          refine v_iload_n X 3 rfl (gD D_X12_roomHeld_0 21 rfl) rfl ?_
          obtain ⟨a62, rfl, hw⟩ := hw
          obtain ⟨h63, hw⟩ := hw
          refine v_iald X 0 rfl (by decide) h63 (gD D_X12_roomHeld_0 22 rfl) ?_
          refine v_iload_n X 1 rfl (gD D_X12_roomHeld_0 23 rfl) rfl ?_
          refine v_icmp_ne X 67 (gD D_X12_roomHeld_0 24 rfl) (by decide) (fun c64 => ?_) (fun c64 => ?_)
          · replace hw := hw.1 c64
            refine v_iconst X 0 (gD D_X12_roomHeld_0 41 rfl) (by decide) ?_
            refine v_iadd X (gD D_X12_roomHeld_0 42 rfl) ?_
            refine v_topi (fun x65 ex65 => ?_)
            replace hw := hw x65 ex65
            refine v_istore_n X [(2, .int x65), (0, va_rf (some a0)), (1, .int x1), (3, .int x3)] (gD D_X12_roomHeld_0 43 rfl) rfl (by decide) rfl ?_
            refine v_iinc X (x3 + 1) 3 rfl [(3, .int (x3 + 1)), (2, .int x65), (0, va_rf (some a0)), (1, .int x1)] (gD D_X12_roomHeld_0 44 rfl) rfl (by decide) rfl ?_
            refine v_goto X 4 (gD D_X12_roomHeld_0 45 rfl) (by decide) ?_
            exact v_sub [2] [2, 3, 1, 0] rfl rfl (ih a0 x1 x65 (x3 + 1) s53 hw)
          · replace hw := hw.2 c64
            refine v_aload_n X 0 rfl (gD D_X12_roomHeld_0 25 rfl) rfl ?_
            refine v_getR X RX12 TX12 65 13 12 (by decide) rfl gin12 51 1251 RX12 (Or.inl rfl) 2 21 rfl rfl rfl (by decide) lk_fRX12_137 (gD D_X12_roomHeld_0 26 rfl) (fun o66 eo66 => ?_)
            replace hw := hw o66 eo66
            refine v_iload_n X 3 rfl (gD D_X12_roomHeld_0 27 rfl) rfl ?_
            obtain ⟨a67, rfl, hw⟩ := hw
            obtain ⟨h68, hw⟩ := hw
            refine v_iald X 0 rfl (by decide) h68 (gD D_X12_roomHeld_0 28 rfl) ?_
            refine v_aload_n X 0 rfl (gD D_X12_roomHeld_0 29 rfl) rfl ?_
            refine v_getR X RX12 TX12 65 13 12 (by decide) rfl gin12 10 1210 RX12 (Or.inl rfl) 3 21 rfl rfl rfl (by decide) lk_fRX12_28 (gD D_X12_roomHeld_0 30 rfl) (fun o69 eo69 => ?_)
            replace hw := hw o69 eo69
            refine v_aload_n X 0 rfl (gD D_X12_roomHeld_0 31 rfl) rfl ?_
            refine v_getR X RX12 TX12 65 13 12 (by decide) rfl gin12 16 1216 RX12 (Or.inl rfl) 4 21 rfl rfl rfl (by decide) lk_fRX12_44 (gD D_X12_roomHeld_0 32 rfl) (fun o70 eo70 => ?_)
            replace hw := hw o70 eo70
            refine v_aload_n X 0 rfl (gD D_X12_roomHeld_0 33 rfl) rfl ?_
            refine v_getR X RX12 TX12 65 13 12 (by decide) rfl gin12 47 1247 RX12 (Or.inl rfl) 5 21 rfl rfl rfl (by decide) lk_fRX12_125 (gD D_X12_roomHeld_0 34 rfl) (fun o71 eo71 => ?_)
            replace hw := hw o71 eo71
            refine v_iload_n X 3 rfl (gD D_X12_roomHeld_0 35 rfl) rfl ?_
            obtain ⟨a72, rfl, hw⟩ := hw
            obtain ⟨h73, hw⟩ := hw
            refine v_iald X 0 rfl (by decide) h73 (gD D_X12_roomHeld_0 36 rfl) ?_
            obtain ⟨a74, rfl, hw⟩ := hw
            obtain ⟨h75, hw⟩ := hw
            refine v_iald X 1 rfl (by decide) h75 (gD D_X12_roomHeld_0 37 rfl) ?_
            obtain ⟨a76, rfl, hw⟩ := hw
            obtain ⟨h77, hw⟩ := hw
            refine v_iald X 2 rfl (by decide) h77 (gD D_X12_roomHeld_0 38 rfl) ?_
            refine v_imul X (gD D_X12_roomHeld_0 39 rfl) ?_
            refine v_goto X 68 (gD D_X12_roomHeld_0 40 rfl) (by decide) ?_
            refine v_iadd X (gD D_X12_roomHeld_0 42 rfl) ?_
            refine v_topi (fun x78 ex78 => ?_)
            replace hw := hw x78 ex78
            refine v_istore_n X [(2, .int x78), (0, va_rf (some a0)), (1, .int x1), (3, .int x3)] (gD D_X12_roomHeld_0 43 rfl) rfl (by decide) rfl ?_
            refine v_iinc X (x3 + 1) 3 rfl [(3, .int (x3 + 1)), (2, .int x78), (0, va_rf (some a0)), (1, .int x1)] (gD D_X12_roomHeld_0 44 rfl) rfl (by decide) rfl ?_
            refine v_goto X 4 (gD D_X12_roomHeld_0 45 rfl) (by decide) ?_
            exact v_sub [6] [2, 3, 1, 0] rfl rfl (ih a0 x1 x78 (x3 + 1) s53 hw)
set_option maxRecDepth 100000 in
set_option maxHeartbeats 4000000 in
theorem c_X12_roomHeld {l : Launch} {G : GX} (htr : l.stackTraces = false) {σ : St} {a0 : Nat} {x1 : Int32} {Q : Int32 → St → Prop} (ht : tvOk σ [(some a0, 13)]) (hw : w_X12_roomHeld a0 x1 σ Q) : MI l G 2 σ yX12_roomHeld cX12_roomHeld 4 (some .int) 1 0 0 [va_rf (some a0), .int x1] Q := by
  unfold w_X12_roomHeld at hw
  refine m_start RX12 (by decide) htr ht (Nat.le_of_ble_eq_true rfl) rfl (lv := [(0, va_rf (some a0)), (1, .int x1)]) (d := 2) (fun p e s m args below meth c X hr hin => ?_)
  refine v_iconst X 0 (gD D_X12_roomHeld_0 0 rfl) (by decide) ?_
  refine v_istore_n X [(2, .int 0), (0, va_rf (some a0)), (1, .int x1)] (gD D_X12_roomHeld_0 1 rfl) rfl (by decide) rfl ?_
  refine v_iconst X 0 (gD D_X12_roomHeld_0 2 rfl) (by decide) ?_
  refine v_istore_n X [(3, .int 0), (2, .int 0), (0, va_rf (some a0)), (1, .int x1)] (gD D_X12_roomHeld_0 3 rfl) rfl (by decide) rfl ?_
  obtain ⟨f79, hw⟩ := hw
  exact v_sub [0] [2, 3, 1, 0] rfl rfl (t_X12_roomHeld_4 X hr hin htr  f79 a0 x1 0 0 σ hw)
set_option maxRecDepth 100000 in
set_option maxHeartbeats 4000000 in
theorem t_X12_standsIn_18 {p : Program} {l : Launch} {e : Env} {s : State} {m : MethodId} {args : Array Value} {below : List Frame} {meth : Method} {c : Code} {G : GX} {σ0 : St} {mc ms : Nat} {Q : Int32 → St → Prop} (X : VC p l (rmD 1 mc ms) s m args meth c G 1 mc ms 5 RX12 cX12_standsIn) (hr : meth.sig.returnType = (some .boolean)) (hin : meth.name = yX12_standsIn.name) (htr : l.stackTraces = false) : ∀ (f : Nat) (a0 : Nat) (x1 : Int32) (x2 : Int32) (x3 : Int32) (x4 : Int32) (σ : St), w_X12_standsIn_18 Q  f a0 x1 x2 x3 x4 σ → V p l e (rmD 1 mc ms) s m args below meth c (MQ below (va_Qi Q (gB G 2 σ0) (GA G)) args s mc ms (GA G)) G 2 σ0 mc ms 5 σ 0 0 [(some a0, 13)] 18 [(0, va_rf (some a0)), (1, .int x1), (2, .int x2), (3, .int x3), (4, .int x4)] [] := by
  intro f
  induction f with
  | zero => intro a0 x1 x2 x3 x4 σ hw; exact hw.elim
  | succ f ih =>
    intro a0 x1 x2 x3 x4 σ hw
    unfold w_X12_standsIn_18 at hw
    refine v_iload X 4 rfl (gD D_X12_standsIn_0 11 rfl) ?_
    refine v_aload_n X 0 rfl (gD D_X12_standsIn_0 12 rfl) rfl ?_
    refine v_getI X RX12 TX12 65 13 12 (by decide) rfl gin12 45 1245 RX12 (Or.inl rfl) 0 rfl rfl (by decide) lk_fRX12_196 (gD D_X12_standsIn_0 13 rfl) ?_
    refine v_icmp_ge X 90 (gD D_X12_standsIn_0 14 rfl) (by decide) (fun c54 => ?_) (fun c54 => ?_)
    · replace hw := hw.1 c54
      refine v_iload_n X 3 rfl (gD D_X12_standsIn_0 48 rfl) rfl ?_
      exact v_zret X hr hw.1 hw.2 (gD D_X12_standsIn_0 49 rfl)
    · replace hw := hw.2 c54
      refine v_iload_n X 3 rfl (gD D_X12_standsIn_0 15 rfl) rfl ?_
      refine v_if_ne X 78 (gD D_X12_standsIn_0 16 rfl) (by decide) (fun c55 => ?_) (fun c55 => ?_)
      · replace hw := hw.1 c55
        refine v_iconst X 1 (gD D_X12_standsIn_0 42 rfl) (by decide) ?_
        refine v_goto X 83 (gD D_X12_standsIn_0 43 rfl) (by decide) ?_
        refine v_istore_n X [(3, .int 1), (0, va_rf (some a0)), (1, .int x1), (2, .int x2), (4, .int x4)] (gD D_X12_standsIn_0 45 rfl) rfl (by decide) rfl ?_
        refine v_iinc X (x4 + 1) 4 rfl [(4, .int (x4 + 1)), (3, .int 1), (0, va_rf (some a0)), (1, .int x1), (2, .int x2)] (gD D_X12_standsIn_0 46 rfl) rfl (by decide) rfl ?_
        refine v_goto X 18 (gD D_X12_standsIn_0 47 rfl) (by decide) ?_
        exact v_sub [0] [2, 3, 4, 1, 0] rfl rfl (ih a0 x1 x2 1 (x4 + 1) σ hw)
      · replace hw := hw.2 c55
        refine v_aload_n X 0 rfl (gD D_X12_standsIn_0 17 rfl) rfl ?_
        refine v_iload X 4 rfl (gD D_X12_standsIn_0 18 rfl) ?_
        refine v_callVi X (As := [.int x4]) (rest := []) (nA := 1) 0 0 0 0 (fun ht => c_X12_isOn htr (ht.sub [0] rfl) hw) (Or.inl rfl) 0 (κ := 13) rfl (by decide) (rfl : gCl[12]? = some (RX12, TX12, 65)) lk_vRX12_199 (by decide +kernel) rfl rfl (by decide) (by decide) (by decide) rfl rfl (gD D_X12_standsIn_0 19 rfl) (fun x56 s57 hq _ _ => ?_)
        replace hw := hq
        clear hq
        refine v_if_eq X 82 (gD D_X12_standsIn_0 20 rfl) (by decide) (fun c58 => ?_) (fun c58 => ?_)
        · replace hw := hw.1 c58
          refine v_iconst X 0 (gD D_X12_standsIn_0 44 rfl) (by decide) ?_
          refine v_istore_n X [(3, .int 0), (0, va_rf (some a0)), (1, .int x1), (2, .int x2), (4, .int x4)] (gD D_X12_standsIn_0 45 rfl) rfl (by decide) rfl ?_
          refine v_iinc X (x4 + 1) 4 rfl [(4, .int (x4 + 1)), (3, .int 0), (0, va_rf (some a0)), (1, .int x1), (2, .int x2)] (gD D_X12_standsIn_0 46 rfl) rfl (by decide) rfl ?_
          refine v_goto X 18 (gD D_X12_standsIn_0 47 rfl) (by decide) ?_
          exact v_sub [0] [2, 3, 4, 1, 0] rfl rfl (ih a0 x1 x2 0 (x4 + 1) s57 hw)
        · replace hw := hw.2 c58
          refine v_aload_n X 0 rfl (gD D_X12_standsIn_0 21 rfl) rfl ?_
          refine v_getR X RX12 TX12 65 13 12 (by decide) rfl gin12 46 1246 RX12 (Or.inl rfl) 0 21 rfl rfl rfl (by decide) lk_fRX12_122 (gD D_X12_standsIn_0 22 rfl) (fun o59 eo59 => ?_)
          replace hw := hw o59 eo59
          refine v_iload X 4 rfl (gD D_X12_standsIn_0 23 rfl) ?_
          obtain ⟨a60, rfl, hw⟩ := hw
          obtain ⟨h61, hw⟩ := hw
          refine v_iald X 0 rfl (by decide) h61 (gD D_X12_standsIn_0 24 rfl) ?_
          refine v_iconst X 2 (gD D_X12_standsIn_0 25 rfl) (by decide) ?_
          refine v_icmp_eq X 82 (gD D_X12_standsIn_0 26 rfl) (by decide) (fun c62 => ?_) (fun c62 => ?_)
          · replace hw := hw.1 c62
            refine v_iconst X 0 (gD D_X12_standsIn_0 44 rfl) (by decide) ?_
            refine v_istore_n X [(3, .int 0), (0, va_rf (some a0)), (1, .int x1), (2, .int x2), (4, .int x4)] (gD D_X12_standsIn_0 45 rfl) rfl (by decide) rfl ?_
            refine v_iinc X (x4 + 1) 4 rfl [(4, .int (x4 + 1)), (3, .int 0), (0, va_rf (some a0)), (1, .int x1), (2, .int x2)] (gD D_X12_standsIn_0 46 rfl) rfl (by decide) rfl ?_
            refine v_goto X 18 (gD D_X12_standsIn_0 47 rfl) (by decide) ?_
            exact v_sub [1] [2, 3, 4, 1, 0] rfl rfl (ih a0 x1 x2 0 (x4 + 1) s57 hw)
          · replace hw := hw.2 c62
            refine v_aload_n X 0 rfl (gD D_X12_standsIn_0 27 rfl) rfl ?_
            refine v_getR X RX12 TX12 65 13 12 (by decide) rfl gin12 49 1249 RX12 (Or.inl rfl) 1 21 rfl rfl rfl (by decide) lk_fRX12_131 (gD D_X12_standsIn_0 28 rfl) (fun o63 eo63 => ?_)
            replace hw := hw o63 eo63
            refine v_iload X 4 rfl (gD D_X12_standsIn_0 29 rfl) ?_
            obtain ⟨a64, rfl, hw⟩ := hw
            obtain ⟨h65, hw⟩ := hw
            refine v_iald X 0 rfl (by decide) h65 (gD D_X12_standsIn_0 30 rfl) ?_
            refine v_iload_n X 1 rfl (gD D_X12_standsIn_0 31 rfl) rfl ?_
            refine v_icmp_ne X 82 (gD D_X12_standsIn_0 32 rfl) (by decide) (fun c66 => ?_) (fun c66 => ?_)
            · replace hw := hw.1 c66
              refine v_iconst X 0 (gD D_X12_standsIn_0 44 rfl) (by decide) ?_
              refine v_istore_n X [(3, .int 0), (0, va_rf (some a0)), (1, .int x1), (2, .int x2), (4, .int x4)] (gD D_X12_standsIn_0 45 rfl) rfl (by decide) rfl ?_
              refine v_iinc X (x4 + 1) 4 rfl [(4, .int (x4 + 1)), (3, .int 0), (0, va_rf (some a0)), (1, .int x1), (2, .int x2)] (gD D_X12_standsIn_0 46 rfl) rfl (by decide) rfl ?_
              refine v_goto X 18 (gD D_X12_standsIn_0 47 rfl) (by decide) ?_
              exact v_sub [2] [2, 3, 4, 1, 0] rfl rfl (ih a0 x1 x2 0 (x4 + 1) s57 hw)
            · replace hw := hw.2 c66
              refine v_aload_n X 0 rfl (gD D_X12_standsIn_0 33 rfl) rfl ?_
              refine v_getR X RX12 TX12 65 13 12 (by decide) rfl gin12 16 1216 RX12 (Or.inl rfl) 2 21 rfl rfl rfl (by decide) lk_fRX12_44 (gD D_X12_standsIn_0 34 rfl) (fun o67 eo67 => ?_)
              replace hw := hw o67 eo67
              refine v_aload_n X 0 rfl (gD D_X12_standsIn_0 35 rfl) rfl ?_
              refine v_getR X RX12 TX12 65 13 12 (by decide) rfl gin12 47 1247 RX12 (Or.inl rfl) 3 21 rfl rfl rfl (by decide) lk_fRX12_125 (gD D_X12_standsIn_0 36 rfl) (fun o68 eo68 => ?_)
              replace hw := hw o68 eo68
              refine v_iload X 4 rfl (gD D_X12_standsIn_0 37 rfl) ?_
              obtain ⟨a69, rfl, hw⟩ := hw
              obtain ⟨h70, hw⟩ := hw
              refine v_iald X 0 rfl (by decide) h70 (gD D_X12_standsIn_0 38 rfl) ?_
              obtain ⟨a71, rfl, hw⟩ := hw
              obtain ⟨h72, hw⟩ := hw
              refine v_iald X 1 rfl (by decide) h72 (gD D_X12_standsIn_0 39 rfl) ?_
              refine v_iload_n X 2 rfl (gD D_X12_standsIn_0 40 rfl) rfl ?_
              refine v_icmp_ne X 82 (gD D_X12_standsIn_0 41 rfl) (by decide) (fun c73 => ?_) (fun c73 => ?_)
              · replace hw := hw.1 c73
                refine v_iconst X 0 (gD D_X12_standsIn_0 44 rfl) (by decide) ?_
                refine v_istore_n X [(3, .int 0), (0, va_rf (some a0)), (1, .int x1), (2, .int x2), (4, .int x4)] (gD D_X12_standsIn_0 45 rfl) rfl (by decide) rfl ?_
                refine v_iinc X (x4 + 1) 4 rfl [(4, .int (x4 + 1)), (3, .int 0), (0, va_rf (some a0)), (1, .int x1), (2, .int x2)] (gD D_X12_standsIn_0 46 rfl) rfl (by decide) rfl ?_
                refine v_goto X 18 (gD D_X12_standsIn_0 47 rfl) (by decide) ?_
                exact v_sub [4] [2, 3, 4, 1, 0] rfl rfl (ih a0 x1 x2 0 (x4 + 1) s57 hw)
              · replace hw := hw.2 c73
                refine v_iconst X 1 (gD D_X12_standsIn_0 42 rfl) (by decide) ?_
                refine v_goto X 83 (gD D_X12_standsIn_0 43 rfl) (by decide) ?_
                refine v_istore_n X [(3, .int 1), (0, va_rf (some a0)), (1, .int x1), (2, .int x2), (4, .int x4)] (gD D_X12_standsIn_0 45 rfl) rfl (by decide) rfl ?_
                refine v_iinc X (x4 + 1) 4 rfl [(4, .int (x4 + 1)), (3, .int 1), (0, va_rf (some a0)), (1, .int x1), (2, .int x2)] (gD D_X12_standsIn_0 46 rfl) rfl (by decide) rfl ?_
                refine v_goto X 18 (gD D_X12_standsIn_0 47 rfl) (by decide) ?_
                exact v_sub [4] [2, 3, 4, 1, 0] rfl rfl (ih a0 x1 x2 1 (x4 + 1) s57 hw)
set_option maxRecDepth 100000 in
set_option maxHeartbeats 4000000 in
theorem c_X12_standsIn {l : Launch} {G : GX} (htr : l.stackTraces = false) {σ : St} {a0 : Nat} {x1 : Int32} {x2 : Int32} {Q : Int32 → St → Prop} (ht : tvOk σ [(some a0, 13)]) (hw : w_X12_standsIn a0 x1 x2 σ Q) : MI l G 2 σ yX12_standsIn cX12_standsIn 5 (some .boolean) 1 0 0 [va_rf (some a0), .int x1, .int x2] Q := by
  unfold w_X12_standsIn at hw
  refine m_start RX12 (by decide) htr ht (Nat.le_of_ble_eq_true rfl) rfl (lv := [(0, va_rf (some a0)), (1, .int x1), (2, .int x2)]) (d := 2) (fun p e s m args below meth c X hr hin => ?_)
  refine v_aload_n X 0 rfl (gD D_X12_standsIn_0 0 rfl) rfl ?_
  refine v_iload_n X 1 rfl (gD D_X12_standsIn_0 1 rfl) rfl ?_
  refine v_iload_n X 2 rfl (gD D_X12_standsIn_0 2 rfl) rfl ?_
  refine v_callVi X (As := [.int x1, .int x2]) (rest := []) (nA := 2) 0 0 0 0 (fun ht => c_X12_itemIn htr (ht.sub [0] rfl) hw) (Or.inl rfl) 0 (κ := 13) rfl (by decide) (rfl : gCl[12]? = some (RX12, TX12, 65)) lk_vRX12_214 (by decide +kernel) rfl rfl (by decide) (by decide) (by decide) rfl rfl (gD D_X12_standsIn_0 3 rfl) (fun x51 s52 hq _ _ => ?_)
  replace hw := hq
  clear hq
  refine v_if_le X 13 (gD D_X12_standsIn_0 4 rfl) (by decide) (fun c53 => ?_) (fun c53 => ?_)
  · replace hw := hw.1 c53
    refine v_iconst X 0 (gD D_X12_standsIn_0 7 rfl) (by decide) ?_
    refine v_istore_n X [(3, .int 0), (0, va_rf (some a0)), (1, .int x1), (2, .int x2)] (gD D_X12_standsIn_0 8 rfl) rfl (by decide) rfl ?_
    refine v_iconst X 0 (gD D_X12_standsIn_0 9 rfl) (by decide) ?_
    refine v_istore X [(4, .int 0), (3, .int 0), (0, va_rf (some a0)), (1, .int x1), (2, .int x2)] (gD D_X12_standsIn_0 10 rfl) (by decide) rfl ?_
    obtain ⟨f74, hw⟩ := hw
    exact v_sub [0] [2, 3, 4, 1, 0] rfl rfl (t_X12_standsIn_18 X hr hin htr  f74 a0 x1 x2 0 0 s52 hw)
  · replace hw := hw.2 c53
    refine v_iconst X 1 (gD D_X12_standsIn_0 5 rfl) (by decide) ?_
    refine v_goto X 14 (gD D_X12_standsIn_0 6 rfl) (by decide) ?_
    refine v_istore_n X [(3, .int 1), (0, va_rf (some a0)), (1, .int x1), (2, .int x2)] (gD D_X12_standsIn_0 8 rfl) rfl (by decide) rfl ?_
    refine v_iconst X 0 (gD D_X12_standsIn_0 9 rfl) (by decide) ?_
    refine v_istore X [(4, .int 0), (3, .int 1), (0, va_rf (some a0)), (1, .int x1), (2, .int x2)] (gD D_X12_standsIn_0 10 rfl) (by decide) rfl ?_
    obtain ⟨f75, hw⟩ := hw
    exact v_sub [0] [2, 3, 4, 1, 0] rfl rfl (t_X12_standsIn_18 X hr hin htr  f75 a0 x1 x2 1 0 s52 hw)
set_option maxRecDepth 100000 in
set_option maxHeartbeats 4000000 in
theorem t_X12_bar_20 {p : Program} {l : Launch} {e : Env} {s : State} {m : MethodId} {args : Array Value} {below : List Frame} {meth : Method} {c : Code} {G : GX} {σ0 : St} {mc ms : Nat} {Q : Int32 → St → Prop} (X : VC p l (rmD 2 mc ms) s m args meth c G 2 mc ms 5 RX12 cX12_bar) (hr : meth.sig.returnType = (some .boolean)) (hin : meth.name = yX12_bar.name) (htr : l.stackTraces = false) : ∀ (a0 : Nat) (x1 : Int32) (x2 : Int32) (x3 : Int32) (as0 : Nat) (xs1 : Int32) (σ : St), w_X12_bar_20 Q  a0 x1 x2 x3 as0 xs1 σ → V p l e (rmD 2 mc ms) s m args below meth c (MQ below (va_Qi Q (gB G 2 σ0) (GA G)) args s mc ms (GA G)) G 2 σ0 mc ms 5 σ 0 0 [(some a0, 13), (some as0, 13)] 20 [(0, va_rf (some a0)), (1, .int x1), (2, .int x2), (3, .int x3)] [.int xs1, va_rf (some as0)] := by
  intro a0 x1 x2 x3 as0 xs1 σ hw
  unfold w_X12_bar_20 at hw
  refine v_callVi X (As := [.int xs1]) (rest := []) (nA := 1) 0 0 0 0 (fun ht => c_X12_holds htr (ht.sub [1] rfl) hw) (Or.inl rfl) 1 (κ := 13) rfl (by decide) (rfl : gCl[12]? = some (RX12, TX12, 65)) lk_vRX12_223 (by decide +kernel) rfl rfl (by decide) (by decide) (by decide) rfl rfl (gD D_X12_bar_0 10 rfl) (fun x54 s55 hq _ _ => ?_)
  replace hw := hq
  clear hq
  refine v_if_ne X 28 (gD D_X12_bar_0 11 rfl) (by decide) (fun c56 => ?_) (fun c56 => ?_)
  · replace hw := hw.1 c56
    refine v_aload_n X 0 rfl (gD D_X12_bar_0 14 rfl) rfl ?_
    refine v_getR X RX12 TX12 65 13 12 (by decide) rfl gin12 14 1214 RX12 (Or.inl rfl) 0 22 rfl rfl rfl (by decide) lk_fRX12_40 (gD D_X12_bar_0 15 rfl) (fun o57 eo57 => ?_)
    replace hw := hw o57 eo57
    refine v_iconst X 4 (gD D_X12_bar_0 16 rfl) (by decide) ?_
    refine v_iload_n X 1 rfl (gD D_X12_bar_0 17 rfl) rfl ?_
    refine v_imul X (gD D_X12_bar_0 18 rfl) ?_
    refine v_iload_n X 2 rfl (gD D_X12_bar_0 19 rfl) rfl ?_
    refine v_iadd X (gD D_X12_bar_0 20 rfl) ?_
    obtain ⟨a58, rfl, hw⟩ := hw
    obtain ⟨h59, hw⟩ := hw
    refine v_zald X 0 rfl rfl h59 (gD D_X12_bar_0 21 rfl) ?_
    refine v_topi (fun x60 ex60 => ?_)
    replace hw := hw x60 ex60
    refine v_istore X [(4, .int x60), (0, va_rf (some a0)), (1, .int x1), (2, .int x2), (3, .int x3)] (gD D_X12_bar_0 22 rfl) (by decide) rfl ?_
    refine v_aload_n X 1 rfl (gD D_X12_bar_0 23 rfl) rfl ?_
    refine v_getR X RX12 TX12 65 13 12 (by decide) rfl gin12 14 1214 RX12 (Or.inl rfl) 1 22 rfl rfl rfl (by decide) lk_fRX12_40 (gD D_X12_bar_0 24 rfl) (fun o61 eo61 => ?_)
    replace hw := hw o61 eo61
    refine v_iconst X 4 (gD D_X12_bar_0 25 rfl) (by decide) ?_
    refine v_iload_n X 2 rfl (gD D_X12_bar_0 26 rfl) rfl ?_
    refine v_imul X (gD D_X12_bar_0 27 rfl) ?_
    refine v_iload_n X 3 rfl (gD D_X12_bar_0 28 rfl) rfl ?_
    refine v_iadd X (gD D_X12_bar_0 29 rfl) ?_
    refine v_iload_n X 4 rfl (gD D_X12_bar_0 30 rfl) rfl ?_
    obtain ⟨a62, rfl, hw⟩ := hw
    obtain ⟨h63, hw⟩ := hw
    obtain ⟨h65, hw⟩ := hw
    refine v_zast X 0 rfl rfl (Or.inl rfl) h63 h65 (gD D_X12_bar_0 31 rfl) (fun s64 es64 => ?_)
    replace hw := hw s64 es64
    refine v_aload_n X 1 rfl (gD D_X12_bar_0 32 rfl) rfl ?_
    refine v_getR X RX12 TX12 65 13 12 (by decide) rfl gin12 14 1214 RX12 (Or.inl rfl) 2 22 rfl rfl rfl (by decide) lk_fRX12_40 (gD D_X12_bar_0 33 rfl) (fun o66 eo66 => ?_)
    replace hw := hw o66 eo66
    refine v_iconst X 4 (gD D_X12_bar_0 34 rfl) (by decide) ?_
    refine v_iload_n X 3 rfl (gD D_X12_bar_0 35 rfl) rfl ?_
    refine v_imul X (gD D_X12_bar_0 36 rfl) ?_
    refine v_iload_n X 2 rfl (gD D_X12_bar_0 37 rfl) rfl ?_
    refine v_iadd X (gD D_X12_bar_0 38 rfl) ?_
    refine v_iload_n X 4 rfl (gD D_X12_bar_0 39 rfl) rfl ?_
    obtain ⟨a67, rfl, hw⟩ := hw
    obtain ⟨h68, hw⟩ := hw
    obtain ⟨h70, hw⟩ := hw
    refine v_zast X 0 rfl rfl (Or.inl rfl) h68 h70 (gD D_X12_bar_0 40 rfl) (fun s69 es69 => ?_)
    replace hw := hw s69 es69
    refine v_iload X 0 rfl (gD D_X12_bar_0 41 rfl) ?_
    exact v_zret X hr hw.1 hw.2 (gD D_X12_bar_0 42 rfl)
  · replace hw := hw.2 c56
    refine v_iconst X 0 (gD D_X12_bar_0 12 rfl) (by decide) ?_
    exact v_zret X hr (by decide) hw (gD D_X12_bar_0 13 rfl)
set_option maxRecDepth 100000 in
set_option maxHeartbeats 4000000 in
theorem t_X12_bar_19 {p : Program} {l : Launch} {e : Env} {s : State} {m : MethodId} {args : Array Value} {below : List Frame} {meth : Method} {c : Code} {G : GX} {σ0 : St} {mc ms : Nat} {Q : Int32 → St → Prop} (X : VC p l (rmD 2 mc ms) s m args meth c G 2 mc ms 5 RX12 cX12_bar) (hr : meth.sig.returnType = (some .boolean)) (hin : meth.name = yX12_bar.name) (htr : l.stackTraces = false) : ∀ (a0 : Nat) (x1 : Int32) (x2 : Int32) (x3 : Int32) (as0 : Nat) (σ : St), w_X12_bar_19 Q  a0 x1 x2 x3 as0 σ → V p l e (rmD 2 mc ms) s m args below meth c (MQ below (va_Qi Q (gB G 2 σ0) (GA G)) args s mc ms (GA G)) G 2 σ0 mc ms 5 σ 0 0 [(some a0, 13), (some as0, 13)] 19 [(0, va_rf (some a0)), (1, .int x1), (2, .int x2), (3, .int x3)] [va_rf (some as0)] := by
  intro a0 x1 x2 x3 as0 σ hw
  unfold w_X12_bar_19 at hw
  refine v_iconst X 1 (gD D_X12_bar_0 9 rfl) (by decide) ?_
  exact v_sub [0, 1] [0, 1, 2, 3] rfl rfl (t_X12_bar_20 X hr hin htr  a0 x1 x2 x3 as0 1 σ hw)
set_option maxRecDepth 100000 in
set_option maxHeartbeats 4000000 in
theorem c_X12_bar {l : Launch} {G : GX} (htr : l.stackTraces = false) {σ : St} {a0 : Nat} {x1 : Int32} {x2 : Int32} {x3 : Int32} {Q : Int32 → St → Prop} (ht : tvOk σ [(some a0, 13)]) (hw : w_X12_bar a0 x1 x2 x3 σ Q) : MI l G 2 σ yX12_bar cX12_bar 5 (some .boolean) 2 0 0 [va_rf (some a0), .int x1, .int x2, .int x3] Q := by
  unfold w_X12_bar at hw
  refine m_start RX12 (by decide) htr ht (Nat.le_of_ble_eq_true rfl) rfl (lv := [(0, va_rf (some a0)), (1, .int x1), (2, .int x2), (3, .int x3)]) (d := 2) (fun p e s m args below meth c X hr hin => ?_)
  refine v_aload_n X 0 rfl (gD D_X12_bar_0 0 rfl) rfl ?_
  refine v_iload_n X 1 rfl (gD D_X12_bar_0 1 rfl) rfl ?_
  refine v_callSi X (As := [.int x1]) (rest := [va_rf (some a0)]) (nA := 1) 0 0 0 0 (fun ht => c_X12_isGroup htr (ht.sub [] rfl) hw) (Or.inl rfl) lk_sRX12_229 (by decide +kernel) rfl rfl (by simp [rf_cat, ct_i]) (by decide) (by decide) rfl rfl (gD D_X12_bar_0 2 rfl) (fun x51 s52 hq _ _ => ?_)
  replace hw := hq
  clear hq
  refine v_if_eq X 19 (gD D_X12_bar_0 3 rfl) (by decide) (fun c53 => ?_) (fun c53 => ?_)
  · replace hw := hw.1 c53
    exact v_sub [0, 0] [0, 1, 2, 3] rfl rfl (t_X12_bar_19 X hr hin htr  a0 x1 x2 x3 a0 s52 hw)
  · replace hw := hw.2 c53
    refine v_iload_n X 2 rfl (gD D_X12_bar_0 4 rfl) rfl ?_
    refine v_callSi X (As := [.int x2]) (rest := [va_rf (some a0)]) (nA := 1) 0 0 0 0 (fun ht => c_X12_isGroup htr (ht.sub [] rfl) hw) (Or.inl rfl) lk_sRX12_229 (by decide +kernel) rfl rfl (by simp [rf_cat, ct_i]) (by decide) (by decide) rfl rfl (gD D_X12_bar_0 5 rfl) (fun x71 s72 hq _ _ => ?_)
    replace hw := hq
    clear hq
    refine v_if_eq X 19 (gD D_X12_bar_0 6 rfl) (by decide) (fun c73 => ?_) (fun c73 => ?_)
    · replace hw := hw.1 c73
      exact v_sub [0, 0] [0, 1, 2, 3] rfl rfl (t_X12_bar_19 X hr hin htr  a0 x1 x2 x3 a0 s72 hw)
    · replace hw := hw.2 c73
      refine v_iconst X 0 (gD D_X12_bar_0 7 rfl) (by decide) ?_
      refine v_goto X 20 (gD D_X12_bar_0 8 rfl) (by decide) ?_
      exact v_sub [0, 0] [0, 1, 2, 3] rfl rfl (t_X12_bar_20 X hr hin htr  a0 x1 x2 x3 a0 0 s72 hw)
set_option maxRecDepth 100000 in
set_option maxHeartbeats 4000000 in
theorem c_X12_boxesOf {l : Launch} {G : GX} (htr : l.stackTraces = false) {σ : St} {a0 : Nat} {x1 : Int32} {Q : Int32 → St → Prop} (ht : tvOk σ [(some a0, 13)]) (hw : w_X12_boxesOf a0 x1 σ Q) : MI l G 2 σ yX12_boxesOf cX12_boxesOf 2 (some .int) 2 0 0 [va_rf (some a0), .int x1] Q := by
  unfold w_X12_boxesOf at hw
  refine m_start RX12 (by decide) htr ht (Nat.le_of_ble_eq_true rfl) rfl (lv := [(0, va_rf (some a0)), (1, .int x1)]) (d := 2) (fun p e s m args below meth c X hr hin => ?_)
  refine v_aload_n X 0 rfl (gD D_X12_boxesOf_0 0 rfl) rfl ?_
  refine v_getR X RX12 TX12 65 13 12 (by decide) rfl gin12 32 1232 RX12 (Or.inl rfl) 0 22 rfl rfl rfl (by decide) lk_fRX12_86 (gD D_X12_boxesOf_0 1 rfl) (fun o51 eo51 => ?_)
  replace hw := hw o51 eo51
  refine v_iload_n X 1 rfl (gD D_X12_boxesOf_0 2 rfl) rfl ?_
  obtain ⟨a52, rfl, hw⟩ := hw
  obtain ⟨h53, hw⟩ := hw
  refine v_zald X 0 rfl rfl h53 (gD D_X12_boxesOf_0 3 rfl) ?_
  refine v_if_eq X 18 (gD D_X12_boxesOf_0 4 rfl) (by decide) (fun c54 => ?_) (fun c54 => ?_)
  · replace hw := hw.1 c54
    refine v_aload_n X 0 rfl (gD D_X12_boxesOf_0 10 rfl) rfl ?_
    refine v_iload_n X 1 rfl (gD D_X12_boxesOf_0 11 rfl) rfl ?_
    refine v_callVi X (As := [.int x1]) (rest := []) (nA := 1) 0 0 0 0 (fun ht => c_X12_packs htr (ht.sub [1] rfl) hw) (Or.inl rfl) 1 (κ := 13) rfl (by decide) (rfl : gCl[12]? = some (RX12, TX12, 65)) lk_vRX12_371 (by decide +kernel) rfl rfl (by decide) (by decide) (by decide) rfl rfl (gD D_X12_boxesOf_0 12 rfl) (fun x55 s56 hq _ _ => ?_)
    replace hw := hq
    clear hq
    exact v_iret X hr hw (gD D_X12_boxesOf_0 13 rfl)
  · replace hw := hw.2 c54
    refine v_aload_n X 0 rfl (gD D_X12_boxesOf_0 5 rfl) rfl ?_
    refine v_getR X RX12 TX12 65 13 12 (by decide) rfl gin12 35 1235 RX12 (Or.inl rfl) 1 21 rfl rfl rfl (by decide) lk_fRX12_95 (gD D_X12_boxesOf_0 6 rfl) (fun o57 eo57 => ?_)
    replace hw := hw o57 eo57
    refine v_iload_n X 1 rfl (gD D_X12_boxesOf_0 7 rfl) rfl ?_
    obtain ⟨a58, rfl, hw⟩ := hw
    obtain ⟨h59, hw⟩ := hw
    refine v_iald X 0 rfl (by decide) h59 (gD D_X12_boxesOf_0 8 rfl) ?_
    refine v_goto X 23 (gD D_X12_boxesOf_0 9 rfl) (by decide) ?_
    exact v_iret X hr hw (gD D_X12_boxesOf_0 13 rfl)
set_option maxRecDepth 100000 in
set_option maxHeartbeats 4000000 in
theorem t_X12_close_29 {p : Program} {l : Launch} {e : Env} {s : State} {m : MethodId} {args : Array Value} {below : List Frame} {meth : Method} {c : Code} {G : GX} {σ0 : St} {mc ms : Nat} {Q : Int32 → St → Prop} (X : VC p l (rmD 2 mc ms) s m args meth c G 2 mc ms 3 RX12 cX12_close) (hr : meth.sig.returnType = (some .int)) (hin : meth.name = yX12_close.name) (htr : l.stackTraces = false) : ∀ (a0 : Nat) (x1 : Int32) (as0 : Nat) (xs1 : Int32) (σ : St), w_X12_close_29 Q  a0 x1 as0 xs1 σ → V p l e (rmD 2 mc ms) s m args below meth c (MQ below (va_Qi Q (gB G 2 σ0) (GA G)) args s mc ms (GA G)) G 2 σ0 mc ms 3 σ 0 0 [(some a0, 13), (some as0, 13)] 29 [(0, va_rf (some a0)), (1, .int x1)] [.int xs1, va_rf (some as0)] := by
  intro a0 x1 as0 xs1 σ hw
  unfold w_X12_close_29 at hw
  refine v_callVi X (As := [.int xs1]) (rest := []) (nA := 1) 0 0 0 0 (fun ht => c_X12_holds htr (ht.sub [1] rfl) hw) (Or.inl rfl) 1 (κ := 13) rfl (by decide) (rfl : gCl[12]? = some (RX12, TX12, 65)) lk_vRX12_223 (by decide +kernel) rfl rfl (by decide) (by decide) (by decide) rfl rfl (gD D_X12_close_0 17 rfl) (fun x58 s59 hq _ _ => ?_)
  replace hw := hq
  clear hq
  refine v_if_ne X 37 (gD D_X12_close_0 18 rfl) (by decide) (fun c60 => ?_) (fun c60 => ?_)
  · replace hw := hw.1 c60
    refine v_aload_n X 0 rfl (gD D_X12_close_0 21 rfl) rfl ?_
    refine v_getR X RX12 TX12 65 13 12 (by decide) rfl gin12 25 1225 RX12 (Or.inl rfl) 0 22 rfl rfl rfl (by decide) lk_fRX12_68 (gD D_X12_close_0 22 rfl) (fun o61 eo61 => ?_)
    replace hw := hw o61 eo61
    refine v_iload_n X 1 rfl (gD D_X12_close_0 23 rfl) rfl ?_
    refine v_iconst X 1 (gD D_X12_close_0 24 rfl) (by decide) ?_
    obtain ⟨a62, rfl, hw⟩ := hw
    obtain ⟨h63, hw⟩ := hw
    refine v_zast X 0 rfl rfl (Or.inl rfl) h63 (by decide) (gD D_X12_close_0 25 rfl) (fun s64 es64 => ?_)
    replace hw := hw s64 es64
    refine v_aload_n X 0 rfl (gD D_X12_close_0 26 rfl) rfl ?_
    refine v_iload_n X 1 rfl (gD D_X12_close_0 27 rfl) rfl ?_
    refine v_iconst X 1 (gD D_X12_close_0 28 rfl) (by decide) ?_
    refine v_callVi X (As := [.int x1, .int 1]) (rest := []) (nA := 2) 0 0 0 0 (fun ht => c_X12_cameOf htr (ht.sub [1] rfl) hw) (Or.inl rfl) 1 (κ := 13) rfl (by decide) (rfl : gCl[12]? = some (RX12, TX12, 65)) lk_vRX12_257 (by decide +kernel) rfl rfl (by decide) (by decide) (by decide) rfl rfl (gD D_X12_close_0 29 rfl) (fun x65 s66 hq _ _ => ?_)
    replace hw := hq
    clear hq
    refine v_aload_n X 0 rfl (gD D_X12_close_0 30 rfl) rfl ?_
    refine v_getR X RX12 TX12 65 13 12 (by decide) rfl gin12 24 1224 RX12 (Or.inl rfl) 1 21 rfl rfl rfl (by decide) lk_fRX12_65 (gD D_X12_close_0 31 rfl) (fun o67 eo67 => ?_)
    replace hw := hw o67 eo67
    refine v_iload_n X 1 rfl (gD D_X12_close_0 32 rfl) rfl ?_
    obtain ⟨a68, rfl, hw⟩ := hw
    obtain ⟨h69, hw⟩ := hw
    refine v_iald X 0 rfl (by decide) h69 (gD D_X12_close_0 33 rfl) ?_
    refine v_isub X (gD D_X12_close_0 34 rfl) ?_
    exact v_iret X hr hw (gD D_X12_close_0 35 rfl)
  · replace hw := hw.2 c60
    refine v_iconst X 0 (gD D_X12_close_0 19 rfl) (by decide) ?_
    exact v_iret X hr hw (gD D_X12_close_0 20 rfl)
set_option maxRecDepth 100000 in
set_option maxHeartbeats 4000000 in
theorem c_X12_close {l : Launch} {G : GX} (htr : l.stackTraces = false) {σ : St} {a0 : Nat} {x1 : Int32} {Q : Int32 → St → Prop} (ht : tvOk σ [(some a0, 13)]) (hw : w_X12_close a0 x1 σ Q) : MI l G 2 σ yX12_close cX12_close 3 (some .int) 2 0 0 [va_rf (some a0), .int x1] Q := by
  unfold w_X12_close at hw
  refine m_start RX12 (by decide) htr ht (Nat.le_of_ble_eq_true rfl) rfl (lv := [(0, va_rf (some a0)), (1, .int x1)]) (d := 2) (fun p e s m args below meth c X hr hin => ?_)
  refine v_aload_n X 0 rfl (gD D_X12_close_0 0 rfl) rfl ?_
  refine v_iload_n X 1 rfl (gD D_X12_close_0 1 rfl) rfl ?_
  refine v_callVi X (As := [.int x1]) (rest := []) (nA := 1) 0 0 0 0 (fun ht => c_X12_isNotice htr (ht.sub [0] rfl) hw) (Or.inl rfl) 0 (κ := 13) rfl (by decide) (rfl : gCl[12]? = some (RX12, TX12, 65)) lk_vRX12_247 (by decide +kernel) rfl rfl (by decide) (by decide) (by decide) rfl rfl (gD D_X12_close_0 2 rfl) (fun x51 s52 hq _ _ => ?_)
  replace hw := hq
  clear hq
  refine v_istore_n X [(2, .int x51), (0, va_rf (some a0)), (1, .int x1)] (gD D_X12_close_0 3 rfl) rfl (by decide) rfl ?_
  refine v_aload_n X 1 rfl (gD D_X12_close_0 4 rfl) rfl ?_
  refine v_iload_n X 0 rfl (gD D_X12_close_0 5 rfl) rfl ?_
  refine v_if_ne X 15 (gD D_X12_close_0 6 rfl) (by decide) (fun c53 => ?_) (fun c53 => ?_)
  · replace hw := hw.1 c53
    refine v_aload_n X 1 rfl (gD D_X12_close_0 9 rfl) rfl ?_
    refine v_getR X RX12 TX12 65 13 12 (by decide) rfl gin12 25 1225 RX12 (Or.inl rfl) 0 22 rfl rfl rfl (by decide) lk_fRX12_68 (gD D_X12_close_0 10 rfl) (fun o54 eo54 => ?_)
    replace hw := hw o54 eo54
    refine v_iload_n X 2 rfl (gD D_X12_close_0 11 rfl) rfl ?_
    obtain ⟨a55, rfl, hw⟩ := hw
    obtain ⟨h56, hw⟩ := hw
    refine v_zald X 0 rfl rfl h56 (gD D_X12_close_0 12 rfl) ?_
    refine v_if_eq X 28 (gD D_X12_close_0 13 rfl) (by decide) (fun c57 => ?_) (fun c57 => ?_)
    · replace hw := hw.1 c57
      refine v_iconst X 0 (gD D_X12_close_0 16 rfl) (by decide) ?_
      exact v_sub [1, 1] [1, 2] rfl rfl (t_X12_close_29 X hr hin htr  a0 x1 a0 0 s52 hw)
    · replace hw := hw.2 c57
      refine v_iconst X 2 (gD D_X12_close_0 14 rfl) (by decide) ?_
      refine v_goto X 29 (gD D_X12_close_0 15 rfl) (by decide) ?_
      exact v_sub [1, 1] [1, 2] rfl rfl (t_X12_close_29 X hr hin htr  a0 x1 a0 2 s52 hw)
  · replace hw := hw.2 c53
    refine v_iconst X 1 (gD D_X12_close_0 7 rfl) (by decide) ?_
    refine v_goto X 29 (gD D_X12_close_0 8 rfl) (by decide) ?_
    exact v_sub [0, 0] [1, 2] rfl rfl (t_X12_close_29 X hr hin htr  a0 x1 a0 1 s52 hw)
set_option maxRecDepth 100000 in
set_option maxHeartbeats 4000000 in
theorem t_X12_comeBack_64 {p : Program} {l : Launch} {e : Env} {s : State} {m : MethodId} {args : Array Value} {below : List Frame} {meth : Method} {c : Code} {G : GX} {σ0 : St} {mc ms : Nat} {Q : Int32 → St → Prop} (X : VC p l (rmD 2 mc ms) s m args meth c G 2 mc ms 5 RX12 cX12_comeBack) (hr : meth.sig.returnType = (some .int)) (hin : meth.name = yX12_comeBack.name) (htr : l.stackTraces = false) : ∀ (a0 : Nat) (x1 : Int32) (x2 : Int32) (x3 : Int32) (as0 : Nat) (xs1 : Int32) (σ : St), w_X12_comeBack_64 Q  a0 x1 x2 x3 as0 xs1 σ → V p l e (rmD 2 mc ms) s m args below meth c (MQ below (va_Qi Q (gB G 2 σ0) (GA G)) args s mc ms (GA G)) G 2 σ0 mc ms 5 σ 0 0 [(some a0, 13), (some as0, 13)] 64 [(0, va_rf (some a0)), (1, .int x1), (2, .int x2), (3, .int x3)] [.int xs1, va_rf (some as0)] := by
  intro a0 x1 x2 x3 as0 xs1 σ hw
  unfold w_X12_comeBack_64 at hw
  refine v_callVi X (As := [.int xs1]) (rest := []) (nA := 1) 0 0 0 0 (fun ht => c_X12_holds htr (ht.sub [1] rfl) hw) (Or.inl rfl) 1 (κ := 13) rfl (by decide) (rfl : gCl[12]? = some (RX12, TX12, 65)) lk_vRX12_223 (by decide +kernel) rfl rfl (by decide) (by decide) (by decide) rfl rfl (gD D_X12_comeBack_0 35 rfl) (fun x62 s63 hq _ _ => ?_)
  replace hw := hq
  clear hq
  refine v_if_ne X 72 (gD D_X12_comeBack_0 36 rfl) (by decide) (fun c64 => ?_) (fun c64 => ?_)
  · replace hw := hw.1 c64
    refine v_aload_n X 0 rfl (gD D_X12_comeBack_0 39 rfl) rfl ?_
    refine v_getR X RX12 TX12 65 13 12 (by decide) rfl gin12 33 1233 RX12 (Or.inl rfl) 0 21 rfl rfl rfl (by decide) lk_fRX12_89 (gD D_X12_comeBack_0 40 rfl) (fun o65 eo65 => ?_)
    replace hw := hw o65 eo65
    refine v_bipush X 12 (gD D_X12_comeBack_0 41 rfl) (by decide) ?_
    refine v_iload_n X 1 rfl (gD D_X12_comeBack_0 42 rfl) rfl ?_
    refine v_imul X (gD D_X12_comeBack_0 43 rfl) ?_
    refine v_iload_n X 2 rfl (gD D_X12_comeBack_0 44 rfl) rfl ?_
    refine v_iadd X (gD D_X12_comeBack_0 45 rfl) ?_
    refine v_topi (fun x66 ex66 => ?_)
    replace hw := hw x66 ex66
    refine v_dup2 X (gD D_X12_comeBack_0 46 rfl) rfl (rf_cat _) ?_
    obtain ⟨a67, rfl, hw⟩ := hw
    obtain ⟨h68, hw⟩ := hw
    refine v_iald X 0 rfl (by decide) h68 (gD D_X12_comeBack_0 47 rfl) ?_
    refine v_iload_n X 3 rfl (gD D_X12_comeBack_0 48 rfl) rfl ?_
    refine v_isub X (gD D_X12_comeBack_0 49 rfl) ?_
    obtain ⟨h69, hw⟩ := hw
    refine v_iast X 0 rfl (by decide) (Or.inl rfl) h69 (gD D_X12_comeBack_0 50 rfl) (fun s70 es70 => ?_)
    replace hw := hw s70 es70
    refine v_aload_n X 0 rfl (gD D_X12_comeBack_0 51 rfl) rfl ?_
    refine v_bipush X 19 (gD D_X12_comeBack_0 52 rfl) (by decide) ?_
    refine v_iload_n X 2 rfl (gD D_X12_comeBack_0 53 rfl) rfl ?_
    refine v_iload_n X 3 rfl (gD D_X12_comeBack_0 54 rfl) rfl ?_
    refine v_callVv X (As := [.int 19, .int x2, .int x3]) (rest := []) (nA := 3) 0 0 0 0 (fun ht => c_X12_books htr (ht.sub [1] rfl) hw) (Or.inl rfl) 1 (κ := 13) rfl (by decide) (rfl : gCl[12]? = some (RX12, TX12, 65)) lk_vRX12_250 (by decide +kernel) rfl rfl (by decide) (by decide) (by decide) rfl rfl (gD D_X12_comeBack_0 55 rfl) (fun s72 hq _ _ => ?_)
    replace hw := hq
    clear hq
    refine v_aload_n X 0 rfl (gD D_X12_comeBack_0 56 rfl) rfl ?_
    refine v_dup X (gD D_X12_comeBack_0 57 rfl) (rf_cat _) ?_
    refine v_getI X RX12 TX12 65 13 12 (by decide) rfl gin12 2 1202 RX12 (Or.inl rfl) 1 rfl rfl (by decide) lk_fRX12_254 (gD D_X12_comeBack_0 58 rfl) ?_
    refine v_iconst X 2 (gD D_X12_comeBack_0 59 rfl) (by decide) ?_
    refine v_iload_n X 3 rfl (gD D_X12_comeBack_0 60 rfl) rfl ?_
    refine v_imul X (gD D_X12_comeBack_0 61 rfl) ?_
    refine v_iadd X (gD D_X12_comeBack_0 62 rfl) ?_
    refine v_putI X RX12 TX12 65 13 12 (by decide) rfl gin12 2 1202 tyX12 tyX12_ok nmX12 RX12 (Or.inl rfl) 1 rfl .int (int_fit _) rfl (by decide) (Or.inl rfl) lk_fRX12_254 rfl rfl (gD D_X12_comeBack_0 63 rfl) (fun s73 es73 => ?_)
    replace hw := hw s73 es73
    refine v_aload_n X 0 rfl (gD D_X12_comeBack_0 64 rfl) rfl ?_
    refine v_getR X RX12 TX12 65 13 12 (by decide) rfl gin12 19 1219 RX12 (Or.inl rfl) 1 21 rfl rfl rfl (by decide) lk_fRX12_53 (gD D_X12_comeBack_0 65 rfl) (fun o74 eo74 => ?_)
    replace hw := hw o74 eo74
    refine v_sipush X 228 (gD D_X12_comeBack_0 66 rfl) (by decide) ?_
    refine v_iload_n X 2 rfl (gD D_X12_comeBack_0 67 rfl) rfl ?_
    refine v_iadd X (gD D_X12_comeBack_0 68 rfl) ?_
    obtain ⟨a75, rfl, hw⟩ := hw
    obtain ⟨h76, hw⟩ := hw
    refine v_iald X 0 rfl (by decide) h76 (gD D_X12_comeBack_0 69 rfl) ?_
    exact v_iret X hr hw (gD D_X12_comeBack_0 70 rfl)
  · replace hw := hw.2 c64
    refine v_iconst X 0 (gD D_X12_comeBack_0 37 rfl) (by decide) ?_
    exact v_iret X hr hw (gD D_X12_comeBack_0 38 rfl)
set_option maxRecDepth 100000 in
set_option maxHeartbeats 4000000 in
theorem t_X12_comeBack_21 {p : Program} {l : Launch} {e : Env} {s : State} {m : MethodId} {args : Array Value} {below : List Frame} {meth : Method} {c : Code} {G : GX} {σ0 : St} {mc ms : Nat} {Q : Int32 → St → Prop} (X : VC p l (rmD 2 mc ms) s m args meth c G 2 mc ms 5 RX12 cX12_comeBack) (hr : meth.sig.returnType = (some .int)) (hin : meth.name = yX12_comeBack.name) (htr : l.stackTraces = false) : ∀ (a0 : Nat) (x1 : Int32) (x2 : Int32) (x3 : Int32) (xs0 : Int32) (σ : St), w_X12_comeBack_21 Q  a0 x1 x2 x3 xs0 σ → V p l e (rmD 2 mc ms) s m args below meth c (MQ below (va_Qi Q (gB G 2 σ0) (GA G)) args s mc ms (GA G)) G 2 σ0 mc ms 5 σ 0 0 [(some a0, 13)] 21 [(0, va_rf (some a0)), (1, .int x1), (2, .int x2), (3, .int x3)] [.int xs0] := by
  intro a0 x1 x2 x3 xs0 σ hw
  unfold w_X12_comeBack_21 at hw
  refine v_istore X [(4, .int xs0), (0, va_rf (some a0)), (1, .int x1), (2, .int x2), (3, .int x3)] (gD D_X12_comeBack_0 11 rfl) (by decide) rfl ?_
  refine v_aload_n X 1 rfl (gD D_X12_comeBack_0 12 rfl) rfl ?_
  refine v_iload X 0 rfl (gD D_X12_comeBack_0 13 rfl) ?_
  refine v_if_ne X 33 (gD D_X12_comeBack_0 14 rfl) (by decide) (fun c54 => ?_) (fun c54 => ?_)
  · replace hw := hw.1 c54
    refine v_iload_n X 4 rfl (gD D_X12_comeBack_0 17 rfl) rfl ?_
    refine v_callSi X (As := [.int x3]) (rest := [va_rf (some a0)]) (nA := 1) 0 0 0 0 (fun ht => c_X12_arePieces htr (ht.sub [] rfl) hw) (Or.inl rfl) lk_sRX12_244 (by decide +kernel) rfl rfl (by simp [rf_cat, ct_i]) (by decide) (by decide) rfl rfl (gD D_X12_comeBack_0 18 rfl) (fun x55 s56 hq _ _ => ?_)
    replace hw := hq
    clear hq
    refine v_if_ne X 44 (gD D_X12_comeBack_0 19 rfl) (by decide) (fun c57 => ?_) (fun c57 => ?_)
    · replace hw := hw.1 c57
      refine v_aload_n X 1 rfl (gD D_X12_comeBack_0 22 rfl) rfl ?_
      refine v_getR X RX12 TX12 65 13 12 (by decide) rfl gin12 33 1233 RX12 (Or.inl rfl) 0 21 rfl rfl rfl (by decide) lk_fRX12_89 (gD D_X12_comeBack_0 23 rfl) (fun o58 eo58 => ?_)
      replace hw := hw o58 eo58
      refine v_bipush X 12 (gD D_X12_comeBack_0 24 rfl) (by decide) ?_
      refine v_iload_n X 2 rfl (gD D_X12_comeBack_0 25 rfl) rfl ?_
      refine v_imul X (gD D_X12_comeBack_0 26 rfl) ?_
      refine v_iload_n X 3 rfl (gD D_X12_comeBack_0 27 rfl) rfl ?_
      refine v_iadd X (gD D_X12_comeBack_0 28 rfl) ?_
      obtain ⟨a59, rfl, hw⟩ := hw
      obtain ⟨h60, hw⟩ := hw
      refine v_iald X 0 rfl (by decide) h60 (gD D_X12_comeBack_0 29 rfl) ?_
      refine v_iload_n X 4 rfl (gD D_X12_comeBack_0 30 rfl) rfl ?_
      refine v_icmp_ge X 63 (gD D_X12_comeBack_0 31 rfl) (by decide) (fun c61 => ?_) (fun c61 => ?_)
      · replace hw := hw.1 c61
        refine v_iconst X 0 (gD D_X12_comeBack_0 34 rfl) (by decide) ?_
        exact v_sub [1, 1] [1, 2, 3, 4] rfl rfl (t_X12_comeBack_64 X hr hin htr  a0 x1 x2 x3 a0 0 s56 hw)
      · replace hw := hw.2 c61
        refine v_iconst X 3 (gD D_X12_comeBack_0 32 rfl) (by decide) ?_
        refine v_goto X 64 (gD D_X12_comeBack_0 33 rfl) (by decide) ?_
        exact v_sub [1, 1] [1, 2, 3, 4] rfl rfl (t_X12_comeBack_64 X hr hin htr  a0 x1 x2 x3 a0 3 s56 hw)
    · replace hw := hw.2 c57
      refine v_iconst X 2 (gD D_X12_comeBack_0 20 rfl) (by decide) ?_
      refine v_goto X 64 (gD D_X12_comeBack_0 21 rfl) (by decide) ?_
      exact v_sub [0, 0] [1, 2, 3, 4] rfl rfl (t_X12_comeBack_64 X hr hin htr  a0 x1 x2 x3 a0 2 s56 hw)
  · replace hw := hw.2 c54
    refine v_iconst X 1 (gD D_X12_comeBack_0 15 rfl) (by decide) ?_
    refine v_goto X 64 (gD D_X12_comeBack_0 16 rfl) (by decide) ?_
    exact v_sub [0, 0] [1, 2, 3, 4] rfl rfl (t_X12_comeBack_64 X hr hin htr  a0 x1 x2 x3 a0 1 σ hw)
set_option maxRecDepth 100000 in
set_option maxHeartbeats 4000000 in
theorem t_X12_comeBack_20 {p : Program} {l : Launch} {e : Env} {s : State} {m : MethodId} {args : Array Value} {below : List Frame} {meth : Method} {c : Code} {G : GX} {σ0 : St} {mc ms : Nat} {Q : Int32 → St → Prop} (X : VC p l (rmD 2 mc ms) s m args meth c G 2 mc ms 5 RX12 cX12_comeBack) (hr : meth.sig.returnType = (some .int)) (hin : meth.name = yX12_comeBack.name) (htr : l.stackTraces = false) : ∀ (a0 : Nat) (x1 : Int32) (x2 : Int32) (x3 : Int32) (σ : St), w_X12_comeBack_20 Q  a0 x1 x2 x3 σ → V p l e (rmD 2 mc ms) s m args below meth c (MQ below (va_Qi Q (gB G 2 σ0) (GA G)) args s mc ms (GA G)) G 2 σ0 mc ms 5 σ 0 0 [(some a0, 13)] 20 [(0, va_rf (some a0)), (1, .int x1), (2, .int x2), (3, .int x3)] [] := by
  intro a0 x1 x2 x3 σ hw
  unfold w_X12_comeBack_20 at hw
  refine v_iconst X 0 (gD D_X12_comeBack_0 10 rfl) (by decide) ?_
  exact v_sub [0] [0, 1, 2, 3] rfl rfl (t_X12_comeBack_21 X hr hin htr  a0 x1 x2 x3 0 σ hw)
set_option maxRecDepth 100000 in
set_option maxHeartbeats 4000000 in
theorem c_X12_comeBack {l : Launch} {G : GX} (htr : l.stackTraces = false) {σ : St} {a0 : Nat} {x1 : Int32} {x2 : Int32} {x3 : Int32} {Q : Int32 → St → Prop} (ht : tvOk σ [(some a0, 13)]) (hw : w_X12_comeBack a0 x1 x2 x3 σ Q) : MI l G 2 σ yX12_comeBack cX12_comeBack 5 (some .int) 2 0 0 [va_rf (some a0), .int x1, .int x2, .int x3] Q := by
  unfold w_X12_comeBack at hw
  refine m_start RX12 (by decide) htr ht (Nat.le_of_ble_eq_true rfl) rfl (lv := [(0, va_rf (some a0)), (1, .int x1), (2, .int x2), (3, .int x3)]) (d := 2) (fun p e s m args below meth c X hr hin => ?_)
  refine v_aload_n X 0 rfl (gD D_X12_comeBack_0 0 rfl) rfl ?_
  refine v_iload_n X 1 rfl (gD D_X12_comeBack_0 1 rfl) rfl ?_
  refine v_callVi X (As := [.int x1]) (rest := []) (nA := 1) 0 0 0 0 (fun ht => c_X12_isOrder htr (ht.sub [0] rfl) hw) (Or.inl rfl) 0 (κ := 13) rfl (by decide) (rfl : gCl[12]? = some (RX12, TX12, 65)) lk_vRX12_287 (by decide +kernel) rfl rfl (by decide) (by decide) (by decide) rfl rfl (gD D_X12_comeBack_0 2 rfl) (fun x51 s52 hq _ _ => ?_)
  replace hw := hq
  clear hq
  refine v_if_eq X 20 (gD D_X12_comeBack_0 3 rfl) (by decide) (fun c53 => ?_) (fun c53 => ?_)
  · replace hw := hw.1 c53
    exact v_sub [0] [0, 1, 2, 3] rfl rfl (t_X12_comeBack_20 X hr hin htr  a0 x1 x2 x3 s52 hw)
  · replace hw := hw.2 c53
    refine v_aload_n X 0 rfl (gD D_X12_comeBack_0 4 rfl) rfl ?_
    refine v_iload_n X 2 rfl (gD D_X12_comeBack_0 5 rfl) rfl ?_
    refine v_callVi X (As := [.int x2]) (rest := []) (nA := 1) 0 0 0 0 (fun ht => c_X12_isLot htr (ht.sub [0] rfl) hw) (Or.inl rfl) 0 (κ := 13) rfl (by decide) (rfl : gCl[12]? = some (RX12, TX12, 65)) lk_vRX12_232 (by decide +kernel) rfl rfl (by decide) (by decide) (by decide) rfl rfl (gD D_X12_comeBack_0 6 rfl) (fun x77 s78 hq _ _ => ?_)
    replace hw := hq
    clear hq
    refine v_if_eq X 20 (gD D_X12_comeBack_0 7 rfl) (by decide) (fun c79 => ?_) (fun c79 => ?_)
    · replace hw := hw.1 c79
      exact v_sub [0] [0, 1, 2, 3] rfl rfl (t_X12_comeBack_20 X hr hin htr  a0 x1 x2 x3 s78 hw)
    · replace hw := hw.2 c79
      refine v_iconst X 1 (gD D_X12_comeBack_0 8 rfl) (by decide) ?_
      refine v_goto X 21 (gD D_X12_comeBack_0 9 rfl) (by decide) ?_
      exact v_sub [0] [0, 1, 2, 3] rfl rfl (t_X12_comeBack_21 X hr hin htr  a0 x1 x2 x3 1 s78 hw)
set_option maxRecDepth 100000 in
set_option maxHeartbeats 4000000 in
theorem t_X12_doing_13 {p : Program} {l : Launch} {e : Env} {s : State} {m : MethodId} {args : Array Value} {below : List Frame} {meth : Method} {c : Code} {G : GX} {σ0 : St} {mc ms : Nat} {Q : Int32 → St → Prop} (X : VC p l (rmD 2 mc ms) s m args meth c G 2 mc ms 2 RX12 cX12_doing) (hr : meth.sig.returnType = (some .int)) (hin : meth.name = yX12_doing.name) (htr : l.stackTraces = false) : ∀ (a0 : Nat) (x1 : Int32) (as0 : Nat) (xs1 : Int32) (σ : St), w_X12_doing_13 Q  a0 x1 as0 xs1 σ → V p l e (rmD 2 mc ms) s m args below meth c (MQ below (va_Qi Q (gB G 2 σ0) (GA G)) args s mc ms (GA G)) G 2 σ0 mc ms 2 σ 0 0 [(some a0, 13), (some as0, 13)] 13 [(0, va_rf (some a0)), (1, .int x1)] [.int xs1, va_rf (some as0)] := by
  intro a0 x1 as0 xs1 σ hw
  unfold w_X12_doing_13 at hw
  refine v_callVi X (As := [.int xs1]) (rest := []) (nA := 1) 0 0 0 0 (fun ht => c_X12_holds htr (ht.sub [1] rfl) hw) (Or.inl rfl) 1 (κ := 13) rfl (by decide) (rfl : gCl[12]? = some (RX12, TX12, 65)) lk_vRX12_223 (by decide +kernel) rfl rfl (by decide) (by decide) (by decide) rfl rfl (gD D_X12_doing_0 7 rfl) (fun x54 s55 hq _ _ => ?_)
  replace hw := hq
  clear hq
  refine v_if_ne X 21 (gD D_X12_doing_0 8 rfl) (by decide) (fun c56 => ?_) (fun c56 => ?_)
  · replace hw := hw.1 c56
    refine v_aload_n X 0 rfl (gD D_X12_doing_0 11 rfl) rfl ?_
    refine v_getR X RX12 TX12 65 13 12 (by decide) rfl gin12 59 1259 RX12 (Or.inl rfl) 0 21 rfl rfl rfl (by decide) lk_fRX12_161 (gD D_X12_doing_0 12 rfl) (fun o57 eo57 => ?_)
    replace hw := hw o57 eo57
    refine v_iload_n X 1 rfl (gD D_X12_doing_0 13 rfl) rfl ?_
    obtain ⟨a58, rfl, hw⟩ := hw
    obtain ⟨h59, hw⟩ := hw
    refine v_iald X 0 rfl (by decide) h59 (gD D_X12_doing_0 14 rfl) ?_
    refine v_if_ne X 34 (gD D_X12_doing_0 15 rfl) (by decide) (fun c60 => ?_) (fun c60 => ?_)
    · replace hw := hw.1 c60
      refine v_aload_n X 0 rfl (gD D_X12_doing_0 18 rfl) rfl ?_
      refine v_getR X RX12 TX12 65 13 12 (by decide) rfl gin12 58 1258 RX12 (Or.inl rfl) 1 21 rfl rfl rfl (by decide) lk_fRX12_158 (gD D_X12_doing_0 19 rfl) (fun o61 eo61 => ?_)
      replace hw := hw o61 eo61
      refine v_bipush X 60 (gD D_X12_doing_0 20 rfl) (by decide) ?_
      refine v_iload_n X 1 rfl (gD D_X12_doing_0 21 rfl) rfl ?_
      refine v_imul X (gD D_X12_doing_0 22 rfl) ?_
      obtain ⟨a62, rfl, hw⟩ := hw
      obtain ⟨h63, hw⟩ := hw
      refine v_iald X 0 rfl (by decide) h63 (gD D_X12_doing_0 23 rfl) ?_
      exact v_iret X hr hw (gD D_X12_doing_0 24 rfl)
    · replace hw := hw.2 c60
      refine v_iconst X (-1) (gD D_X12_doing_0 16 rfl) (by decide) ?_
      refine v_goto X 43 (gD D_X12_doing_0 17 rfl) (by decide) ?_
      exact v_iret X hr hw (gD D_X12_doing_0 24 rfl)
  · replace hw := hw.2 c56
    refine v_iconst X 0 (gD D_X12_doing_0 9 rfl) (by decide) ?_
    exact v_iret X hr hw (gD D_X12_doing_0 10 rfl)
set_option maxRecDepth 100000 in
set_option maxHeartbeats 4000000 in
theorem c_X12_doing {l : Launch} {G : GX} (htr : l.stackTraces = false) {σ : St} {a0 : Nat} {x1 : Int32} {Q : Int32 → St → Prop} (ht : tvOk σ [(some a0, 13)]) (hw : w_X12_doing a0 x1 σ Q) : MI l G 2 σ yX12_doing cX12_doing 2 (some .int) 2 0 0 [va_rf (some a0), .int x1] Q := by
  unfold w_X12_doing at hw
  refine m_start RX12 (by decide) htr ht (Nat.le_of_ble_eq_true rfl) rfl (lv := [(0, va_rf (some a0)), (1, .int x1)]) (d := 2) (fun p e s m args below meth c X hr hin => ?_)
  refine v_aload_n X 0 rfl (gD D_X12_doing_0 0 rfl) rfl ?_
  refine v_iload_n X 1 rfl (gD D_X12_doing_0 1 rfl) rfl ?_
  refine v_callSi X (As := [.int x1]) (rest := [va_rf (some a0)]) (nA := 1) 0 0 0 0 (fun ht => c_X12_isRobot htr (ht.sub [] rfl) hw) (Or.inl rfl) lk_sRX12_309 (by decide +kernel) rfl rfl (by simp [rf_cat, ct_i]) (by decide) (by decide) rfl rfl (gD D_X12_doing_0 2 rfl) (fun x51 s52 hq _ _ => ?_)
  replace hw := hq
  clear hq
  refine v_if_eq X 12 (gD D_X12_doing_0 3 rfl) (by decide) (fun c53 => ?_) (fun c53 => ?_)
  · replace hw := hw.1 c53
    refine v_iconst X 1 (gD D_X12_doing_0 6 rfl) (by decide) ?_
    exact v_sub [0, 0] [0, 1] rfl rfl (t_X12_doing_13 X hr hin htr  a0 x1 a0 1 s52 hw)
  · replace hw := hw.2 c53
    refine v_iconst X 0 (gD D_X12_doing_0 4 rfl) (by decide) ?_
    refine v_goto X 13 (gD D_X12_doing_0 5 rfl) (by decide) ?_
    exact v_sub [0, 0] [0, 1] rfl rfl (t_X12_doing_13 X hr hin htr  a0 x1 a0 0 s52 hw)
set_option maxRecDepth 100000 in
set_option maxHeartbeats 4000000 in
theorem t_X12_find_44 {p : Program} {l : Launch} {e : Env} {s : State} {m : MethodId} {args : Array Value} {below : List Frame} {meth : Method} {c : Code} {G : GX} {σ0 : St} {mc ms : Nat} {Q : Int32 → St → Prop} (X : VC p l (rmD 2 mc ms) s m args meth c G 2 mc ms 5 RX12 cX12_find) (hr : meth.sig.returnType = (some .int)) (hin : meth.name = yX12_find.name) (htr : l.stackTraces = false) : ∀ (a0 : Nat) (x1 : Int32) (x2 : Int32) (x3 : Int32) (as0 : Nat) (xs1 : Int32) (σ : St), w_X12_find_44 Q  a0 x1 x2 x3 as0 xs1 σ → V p l e (rmD 2 mc ms) s m args below meth c (MQ below (va_Qi Q (gB G 2 σ0) (GA G)) args s mc ms (GA G)) G 2 σ0 mc ms 5 σ 0 0 [(some a0, 13), (some as0, 13)] 44 [(0, va_rf (some a0)), (1, .int x1), (2, .int x2), (3, .int x3)] [.int xs1, va_rf (some as0)] := by
  intro a0 x1 x2 x3 as0 xs1 σ hw
  unfold w_X12_find_44 at hw
  refine v_callVi X (As := [.int xs1]) (rest := []) (nA := 1) 0 0 0 0 (fun ht => c_X12_holds htr (ht.sub [1] rfl) hw) (Or.inl rfl) 1 (κ := 13) rfl (by decide) (rfl : gCl[12]? = some (RX12, TX12, 65)) lk_vRX12_223 (by decide +kernel) rfl rfl (by decide) (by decide) (by decide) rfl rfl (gD D_X12_find_0 22 rfl) (fun x58 s59 hq _ _ => ?_)
  replace hw := hq
  clear hq
  refine v_if_ne X 52 (gD D_X12_find_0 23 rfl) (by decide) (fun c60 => ?_) (fun c60 => ?_)
  · replace hw := hw.1 c60
    refine v_aload_n X 0 rfl (gD D_X12_find_0 26 rfl) rfl ?_
    refine v_getR X RX12 TX12 65 13 12 (by decide) rfl gin12 20 1220 RX12 (Or.inl rfl) 0 21 rfl rfl rfl (by decide) lk_fRX12_56 (gD D_X12_find_0 27 rfl) (fun o61 eo61 => ?_)
    replace hw := hw o61 eo61
    refine v_bipush X 12 (gD D_X12_find_0 28 rfl) (by decide) ?_
    refine v_iload_n X 1 rfl (gD D_X12_find_0 29 rfl) rfl ?_
    refine v_imul X (gD D_X12_find_0 30 rfl) ?_
    refine v_iload_n X 2 rfl (gD D_X12_find_0 31 rfl) rfl ?_
    refine v_iadd X (gD D_X12_find_0 32 rfl) ?_
    refine v_topi (fun x62 ex62 => ?_)
    replace hw := hw x62 ex62
    refine v_dup2 X (gD D_X12_find_0 33 rfl) rfl (rf_cat _) ?_
    obtain ⟨a63, rfl, hw⟩ := hw
    obtain ⟨h64, hw⟩ := hw
    refine v_iald X 0 rfl (by decide) h64 (gD D_X12_find_0 34 rfl) ?_
    refine v_iload_n X 3 rfl (gD D_X12_find_0 35 rfl) rfl ?_
    refine v_iadd X (gD D_X12_find_0 36 rfl) ?_
    obtain ⟨h65, hw⟩ := hw
    refine v_iast X 0 rfl (by decide) (Or.inl rfl) h65 (gD D_X12_find_0 37 rfl) (fun s66 es66 => ?_)
    replace hw := hw s66 es66
    refine v_aload_n X 0 rfl (gD D_X12_find_0 38 rfl) rfl ?_
    refine v_getR X RX12 TX12 65 13 12 (by decide) rfl gin12 20 1220 RX12 (Or.inl rfl) 1 21 rfl rfl rfl (by decide) lk_fRX12_56 (gD D_X12_find_0 39 rfl) (fun o67 eo67 => ?_)
    replace hw := hw o67 eo67
    refine v_bipush X 12 (gD D_X12_find_0 40 rfl) (by decide) ?_
    refine v_iload_n X 1 rfl (gD D_X12_find_0 41 rfl) rfl ?_
    refine v_imul X (gD D_X12_find_0 42 rfl) ?_
    refine v_iload_n X 2 rfl (gD D_X12_find_0 43 rfl) rfl ?_
    refine v_iadd X (gD D_X12_find_0 44 rfl) ?_
    obtain ⟨a68, rfl, hw⟩ := hw
    obtain ⟨h69, hw⟩ := hw
    refine v_iald X 0 rfl (by decide) h69 (gD D_X12_find_0 45 rfl) ?_
    exact v_iret X hr hw (gD D_X12_find_0 46 rfl)
  · replace hw := hw.2 c60
    refine v_iconst X 0 (gD D_X12_find_0 24 rfl) (by decide) ?_
    exact v_iret X hr hw (gD D_X12_find_0 25 rfl)
set_option maxRecDepth 100000 in
set_option maxHeartbeats 4000000 in
theorem t_X12_find_20 {p : Program} {l : Launch} {e : Env} {s : State} {m : MethodId} {args : Array Value} {below : List Frame} {meth : Method} {c : Code} {G : GX} {σ0 : St} {mc ms : Nat} {Q : Int32 → St → Prop} (X : VC p l (rmD 2 mc ms) s m args meth c G 2 mc ms 5 RX12 cX12_find) (hr : meth.sig.returnType = (some .int)) (hin : meth.name = yX12_find.name) (htr : l.stackTraces = false) : ∀ (a0 : Nat) (x1 : Int32) (x2 : Int32) (x3 : Int32) (xs0 : Int32) (σ : St), w_X12_find_20 Q  a0 x1 x2 x3 xs0 σ → V p l e (rmD 2 mc ms) s m args below meth c (MQ below (va_Qi Q (gB G 2 σ0) (GA G)) args s mc ms (GA G)) G 2 σ0 mc ms 5 σ 0 0 [(some a0, 13)] 20 [(0, va_rf (some a0)), (1, .int x1), (2, .int x2), (3, .int x3)] [.int xs0] := by
  intro a0 x1 x2 x3 xs0 σ hw
  unfold w_X12_find_20 at hw
  refine v_istore X [(4, .int xs0), (0, va_rf (some a0)), (1, .int x1), (2, .int x2), (3, .int x3)] (gD D_X12_find_0 10 rfl) (by decide) rfl ?_
  refine v_aload_n X 1 rfl (gD D_X12_find_0 11 rfl) rfl ?_
  refine v_iload X 0 rfl (gD D_X12_find_0 12 rfl) ?_
  refine v_if_ne X 32 (gD D_X12_find_0 13 rfl) (by decide) (fun c54 => ?_) (fun c54 => ?_)
  · replace hw := hw.1 c54
    refine v_iload_n X 4 rfl (gD D_X12_find_0 16 rfl) rfl ?_
    refine v_callSi X (As := [.int x3]) (rest := [va_rf (some a0)]) (nA := 1) 0 0 0 0 (fun ht => c_X12_arePieces htr (ht.sub [] rfl) hw) (Or.inl rfl) lk_sRX12_244 (by decide +kernel) rfl rfl (by simp [rf_cat, ct_i]) (by decide) (by decide) rfl rfl (gD D_X12_find_0 17 rfl) (fun x55 s56 hq _ _ => ?_)
    replace hw := hq
    clear hq
    refine v_if_eq X 43 (gD D_X12_find_0 18 rfl) (by decide) (fun c57 => ?_) (fun c57 => ?_)
    · replace hw := hw.1 c57
      refine v_iconst X 2 (gD D_X12_find_0 21 rfl) (by decide) ?_
      exact v_sub [0, 0] [1, 2, 3, 4] rfl rfl (t_X12_find_44 X hr hin htr  a0 x1 x2 x3 a0 2 s56 hw)
    · replace hw := hw.2 c57
      refine v_iconst X 0 (gD D_X12_find_0 19 rfl) (by decide) ?_
      refine v_goto X 44 (gD D_X12_find_0 20 rfl) (by decide) ?_
      exact v_sub [0, 0] [1, 2, 3, 4] rfl rfl (t_X12_find_44 X hr hin htr  a0 x1 x2 x3 a0 0 s56 hw)
  · replace hw := hw.2 c54
    refine v_iconst X 1 (gD D_X12_find_0 14 rfl) (by decide) ?_
    refine v_goto X 44 (gD D_X12_find_0 15 rfl) (by decide) ?_
    exact v_sub [0, 0] [1, 2, 3, 4] rfl rfl (t_X12_find_44 X hr hin htr  a0 x1 x2 x3 a0 1 σ hw)
set_option maxRecDepth 100000 in
set_option maxHeartbeats 4000000 in
theorem t_X12_find_19 {p : Program} {l : Launch} {e : Env} {s : State} {m : MethodId} {args : Array Value} {below : List Frame} {meth : Method} {c : Code} {G : GX} {σ0 : St} {mc ms : Nat} {Q : Int32 → St → Prop} (X : VC p l (rmD 2 mc ms) s m args meth c G 2 mc ms 5 RX12 cX12_find) (hr : meth.sig.returnType = (some .int)) (hin : meth.name = yX12_find.name) (htr : l.stackTraces = false) : ∀ (a0 : Nat) (x1 : Int32) (x2 : Int32) (x3 : Int32) (σ : St), w_X12_find_19 Q  a0 x1 x2 x3 σ → V p l e (rmD 2 mc ms) s m args below meth c (MQ below (va_Qi Q (gB G 2 σ0) (GA G)) args s mc ms (GA G)) G 2 σ0 mc ms 5 σ 0 0 [(some a0, 13)] 19 [(0, va_rf (some a0)), (1, .int x1), (2, .int x2), (3, .int x3)] [] := by
  intro a0 x1 x2 x3 σ hw
  unfold w_X12_find_19 at hw
  refine v_iconst X 0 (gD D_X12_find_0 9 rfl) (by decide) ?_
  exact v_sub [0] [0, 1, 2, 3] rfl rfl (t_X12_find_20 X hr hin htr  a0 x1 x2 x3 0 σ hw)
set_option maxRecDepth 100000 in
set_option maxHeartbeats 4000000 in
theorem c_X12_find {l : Launch} {G : GX} (htr : l.stackTraces = false) {σ : St} {a0 : Nat} {x1 : Int32} {x2 : Int32} {x3 : Int32} {Q : Int32 → St → Prop} (ht : tvOk σ [(some a0, 13)]) (hw : w_X12_find a0 x1 x2 x3 σ Q) : MI l G 2 σ yX12_find cX12_find 5 (some .int) 2 0 0 [va_rf (some a0), .int x1, .int x2, .int x3] Q := by
  unfold w_X12_find at hw
  refine m_start RX12 (by decide) htr ht (Nat.le_of_ble_eq_true rfl) rfl (lv := [(0, va_rf (some a0)), (1, .int x1), (2, .int x2), (3, .int x3)]) (d := 2) (fun p e s m args below meth c X hr hin => ?_)
  refine v_iload_n X 1 rfl (gD D_X12_find_0 0 rfl) rfl ?_
  refine v_callSi X (As := [.int x1]) (rest := []) (nA := 1) 0 0 0 0 (fun ht => c_X12_isSlot htr (ht.sub [] rfl) hw) (Or.inl rfl) lk_sRX12_217 (by decide +kernel) rfl rfl (by decide) (by decide) (by decide) rfl rfl (gD D_X12_find_0 1 rfl) (fun x51 s52 hq _ _ => ?_)
  replace hw := hq
  clear hq
  refine v_if_eq X 19 (gD D_X12_find_0 2 rfl) (by decide) (fun c53 => ?_) (fun c53 => ?_)
  · replace hw := hw.1 c53
    exact v_sub [0] [0, 1, 2, 3] rfl rfl (t_X12_find_19 X hr hin htr  a0 x1 x2 x3 s52 hw)
  · replace hw := hw.2 c53
    refine v_aload_n X 0 rfl (gD D_X12_find_0 3 rfl) rfl ?_
    refine v_iload_n X 2 rfl (gD D_X12_find_0 4 rfl) rfl ?_
    refine v_callVi X (As := [.int x2]) (rest := []) (nA := 1) 0 0 0 0 (fun ht => c_X12_isLot htr (ht.sub [0] rfl) hw) (Or.inl rfl) 0 (κ := 13) rfl (by decide) (rfl : gCl[12]? = some (RX12, TX12, 65)) lk_vRX12_232 (by decide +kernel) rfl rfl (by decide) (by decide) (by decide) rfl rfl (gD D_X12_find_0 5 rfl) (fun x70 s71 hq _ _ => ?_)
    replace hw := hq
    clear hq
    refine v_if_eq X 19 (gD D_X12_find_0 6 rfl) (by decide) (fun c72 => ?_) (fun c72 => ?_)
    · replace hw := hw.1 c72
      exact v_sub [0] [0, 1, 2, 3] rfl rfl (t_X12_find_19 X hr hin htr  a0 x1 x2 x3 s71 hw)
    · replace hw := hw.2 c72
      refine v_iconst X 1 (gD D_X12_find_0 7 rfl) (by decide) ?_
      refine v_goto X 20 (gD D_X12_find_0 8 rfl) (by decide) ?_
      exact v_sub [0] [0, 1, 2, 3] rfl rfl (t_X12_find_20 X hr hin htr  a0 x1 x2 x3 1 s71 hw)
set_option maxRecDepth 100000 in
set_option maxHeartbeats 4000000 in
theorem c_X12_freeAt {l : Launch} {G : GX} (htr : l.stackTraces = false) {σ : St} {a0 : Nat} {x1 : Int32} {x2 : Int32} {Q : Int32 → St → Prop} (ht : tvOk σ [(some a0, 13)]) (hw : w_X12_freeAt a0 x1 x2 σ Q) : MI l G 2 σ yX12_freeAt cX12_freeAt 3 (some .int) 2 0 0 [va_rf (some a0), .int x1, .int x2] Q := by
  unfold w_X12_freeAt at hw
  refine m_start RX12 (by decide) htr ht (Nat.le_of_ble_eq_true rfl) rfl (lv := [(0, va_rf (some a0)), (1, .int x1), (2, .int x2)]) (d := 2) (fun p e s m args below meth c X hr hin => ?_)
  refine v_aload_n X 0 rfl (gD D_X12_freeAt_0 0 rfl) rfl ?_
  refine v_getR X RX12 TX12 65 13 12 (by decide) rfl gin12 19 1219 RX12 (Or.inl rfl) 0 21 rfl rfl rfl (by decide) lk_fRX12_53 (gD D_X12_freeAt_0 1 rfl) (fun o51 eo51 => ?_)
  replace hw := hw o51 eo51
  refine v_bipush X 12 (gD D_X12_freeAt_0 2 rfl) (by decide) ?_
  refine v_iload_n X 1 rfl (gD D_X12_freeAt_0 3 rfl) rfl ?_
  refine v_imul X (gD D_X12_freeAt_0 4 rfl) ?_
  refine v_iload_n X 2 rfl (gD D_X12_freeAt_0 5 rfl) rfl ?_
  refine v_iadd X (gD D_X12_freeAt_0 6 rfl) ?_
  obtain ⟨a52, rfl, hw⟩ := hw
  obtain ⟨h53, hw⟩ := hw
  refine v_iald X 0 rfl (by decide) h53 (gD D_X12_freeAt_0 7 rfl) ?_
  refine v_aload_n X 0 rfl (gD D_X12_freeAt_0 8 rfl) rfl ?_
  refine v_iload_n X 1 rfl (gD D_X12_freeAt_0 9 rfl) rfl ?_
  refine v_iload_n X 2 rfl (gD D_X12_freeAt_0 10 rfl) rfl ?_
  refine v_callVi X (As := [.int x1, .int x2]) (rest := [.int (sA σ a52 ((12 * x1) + x2).toNatClampNeg)]) (nA := 2) 0 0 0 0 (fun ht => c_X12_heldAt htr (ht.sub [1] rfl) hw) (Or.inl rfl) 1 (κ := 13) rfl (by decide) (rfl : gCl[12]? = some (RX12, TX12, 65)) lk_vRX12_206 (by decide +kernel) rfl rfl (by simp [rf_cat, ct_i]) (by decide) (by decide) rfl rfl (gD D_X12_freeAt_0 11 rfl) (fun x54 s55 hq _ _ => ?_)
  replace hw := hq
  clear hq
  refine v_isub X (gD D_X12_freeAt_0 12 rfl) ?_
  exact v_iret X hr hw (gD D_X12_freeAt_0 13 rfl)
set_option maxRecDepth 100000 in
set_option maxHeartbeats 4000000 in
theorem t_X12_give_44 {p : Program} {l : Launch} {e : Env} {s : State} {m : MethodId} {args : Array Value} {below : List Frame} {meth : Method} {c : Code} {G : GX} {σ0 : St} {mc ms : Nat} {Q : Int32 → St → Prop} (X : VC p l (rmD 2 mc ms) s m args meth c G 2 mc ms 4 RX12 cX12_give) (hr : meth.sig.returnType = (some .int)) (hin : meth.name = yX12_give.name) (htr : l.stackTraces = false) : ∀ (a0 : Nat) (x1 : Int32) (x2 : Int32) (as0 : Nat) (xs1 : Int32) (σ : St), w_X12_give_44 Q  a0 x1 x2 as0 xs1 σ → V p l e (rmD 2 mc ms) s m args below meth c (MQ below (va_Qi Q (gB G 2 σ0) (GA G)) args s mc ms (GA G)) G 2 σ0 mc ms 4 σ 0 0 [(some a0, 13), (some as0, 13)] 44 [(0, va_rf (some a0)), (1, .int x1), (2, .int x2)] [.int xs1, va_rf (some as0)] := by
  intro a0 x1 x2 as0 xs1 σ hw
  unfold w_X12_give_44 at hw
  refine v_callVi X (As := [.int xs1]) (rest := []) (nA := 1) 0 0 0 0 (fun ht => c_X12_holds htr (ht.sub [1] rfl) hw) (Or.inl rfl) 1 (κ := 13) rfl (by decide) (rfl : gCl[12]? = some (RX12, TX12, 65)) lk_vRX12_223 (by decide +kernel) rfl rfl (by decide) (by decide) (by decide) rfl rfl (gD D_X12_give_0 24 rfl) (fun x59 s60 hq _ _ => ?_)
  replace hw := hq
  clear hq
  refine v_if_ne X 52 (gD D_X12_give_0 25 rfl) (by decide) (fun c61 => ?_) (fun c61 => ?_)
  · replace hw := hw.1 c61
    refine v_aload_n X 0 rfl (gD D_X12_give_0 28 rfl) rfl ?_
    refine v_iload_n X 1 rfl (gD D_X12_give_0 29 rfl) rfl ?_
    refine v_iload_n X 2 rfl (gD D_X12_give_0 30 rfl) rfl ?_
    refine v_callVv X (As := [.int x1, .int x2]) (rest := []) (nA := 2) 0 0 0 0 (fun ht => c_X12_gives htr (ht.sub [0] rfl) hw) (Or.inl rfl) 0 (κ := 13) rfl (by decide) (rfl : gCl[12]? = some (RX12, TX12, 65)) lk_vRX12_305 (by decide +kernel) rfl rfl (by decide) (by decide) (by decide) rfl rfl (gD D_X12_give_0 31 rfl) (fun s63 hq _ _ => ?_)
    replace hw := hq
    clear hq
    refine v_aload_n X 0 rfl (gD D_X12_give_0 32 rfl) rfl ?_
    refine v_getR X RX12 TX12 65 13 12 (by decide) rfl gin12 59 1259 RX12 (Or.inl rfl) 0 21 rfl rfl rfl (by decide) lk_fRX12_161 (gD D_X12_give_0 33 rfl) (fun o64 eo64 => ?_)
    replace hw := hw o64 eo64
    refine v_iload_n X 1 rfl (gD D_X12_give_0 34 rfl) rfl ?_
    obtain ⟨a65, rfl, hw⟩ := hw
    obtain ⟨h66, hw⟩ := hw
    refine v_iald X 0 rfl (by decide) h66 (gD D_X12_give_0 35 rfl) ?_
    exact v_iret X hr hw (gD D_X12_give_0 36 rfl)
  · replace hw := hw.2 c61
    refine v_iconst X 0 (gD D_X12_give_0 26 rfl) (by decide) ?_
    exact v_iret X hr hw (gD D_X12_give_0 27 rfl)
set_option maxRecDepth 100000 in
set_option maxHeartbeats 4000000 in
theorem t_X12_give_20 {p : Program} {l : Launch} {e : Env} {s : State} {m : MethodId} {args : Array Value} {below : List Frame} {meth : Method} {c : Code} {G : GX} {σ0 : St} {mc ms : Nat} {Q : Int32 → St → Prop} (X : VC p l (rmD 2 mc ms) s m args meth c G 2 mc ms 4 RX12 cX12_give) (hr : meth.sig.returnType = (some .int)) (hin : meth.name = yX12_give.name) (htr : l.stackTraces = false) : ∀ (a0 : Nat) (x1 : Int32) (x2 : Int32) (xs0 : Int32) (σ : St), w_X12_give_20 Q  a0 x1 x2 xs0 σ → V p l e (rmD 2 mc ms) s m args below meth c (MQ below (va_Qi Q (gB G 2 σ0) (GA G)) args s mc ms (GA G)) G 2 σ0 mc ms 4 σ 0 0 [(some a0, 13)] 20 [(0, va_rf (some a0)), (1, .int x1), (2, .int x2)] [.int xs0] := by
  intro a0 x1 x2 xs0 σ hw
  unfold w_X12_give_20 at hw
  refine v_istore_n X [(3, .int xs0), (0, va_rf (some a0)), (1, .int x1), (2, .int x2)] (gD D_X12_give_0 10 rfl) rfl (by decide) rfl ?_
  refine v_aload_n X 1 rfl (gD D_X12_give_0 11 rfl) rfl ?_
  refine v_iload_n X 0 rfl (gD D_X12_give_0 12 rfl) rfl ?_
  refine v_if_ne X 30 (gD D_X12_give_0 13 rfl) (by decide) (fun c54 => ?_) (fun c54 => ?_)
  · replace hw := hw.1 c54
    refine v_aload_n X 1 rfl (gD D_X12_give_0 16 rfl) rfl ?_
    refine v_getR X RX12 TX12 65 13 12 (by decide) rfl gin12 52 1252 RX12 (Or.inl rfl) 0 21 rfl rfl rfl (by decide) lk_fRX12_140 (gD D_X12_give_0 17 rfl) (fun o55 eo55 => ?_)
    replace hw := hw o55 eo55
    refine v_iload_n X 3 rfl (gD D_X12_give_0 18 rfl) rfl ?_
    obtain ⟨a56, rfl, hw⟩ := hw
    obtain ⟨h57, hw⟩ := hw
    refine v_iald X 0 rfl (by decide) h57 (gD D_X12_give_0 19 rfl) ?_
    refine v_if_ne X 43 (gD D_X12_give_0 20 rfl) (by decide) (fun c58 => ?_) (fun c58 => ?_)
    · replace hw := hw.1 c58
      refine v_iconst X 2 (gD D_X12_give_0 23 rfl) (by decide) ?_
      exact v_sub [1, 1] [1, 2, 3] rfl rfl (t_X12_give_44 X hr hin htr  a0 x1 x2 a0 2 σ hw)
    · replace hw := hw.2 c58
      refine v_iconst X 0 (gD D_X12_give_0 21 rfl) (by decide) ?_
      refine v_goto X 44 (gD D_X12_give_0 22 rfl) (by decide) ?_
      exact v_sub [1, 1] [1, 2, 3] rfl rfl (t_X12_give_44 X hr hin htr  a0 x1 x2 a0 0 σ hw)
  · replace hw := hw.2 c54
    refine v_iconst X 1 (gD D_X12_give_0 14 rfl) (by decide) ?_
    refine v_goto X 44 (gD D_X12_give_0 15 rfl) (by decide) ?_
    exact v_sub [0, 0] [1, 2, 3] rfl rfl (t_X12_give_44 X hr hin htr  a0 x1 x2 a0 1 σ hw)
set_option maxRecDepth 100000 in
set_option maxHeartbeats 4000000 in
theorem t_X12_give_19 {p : Program} {l : Launch} {e : Env} {s : State} {m : MethodId} {args : Array Value} {below : List Frame} {meth : Method} {c : Code} {G : GX} {σ0 : St} {mc ms : Nat} {Q : Int32 → St → Prop} (X : VC p l (rmD 2 mc ms) s m args meth c G 2 mc ms 4 RX12 cX12_give) (hr : meth.sig.returnType = (some .int)) (hin : meth.name = yX12_give.name) (htr : l.stackTraces = false) : ∀ (a0 : Nat) (x1 : Int32) (x2 : Int32) (σ : St), w_X12_give_19 Q  a0 x1 x2 σ → V p l e (rmD 2 mc ms) s m args below meth c (MQ below (va_Qi Q (gB G 2 σ0) (GA G)) args s mc ms (GA G)) G 2 σ0 mc ms 4 σ 0 0 [(some a0, 13)] 19 [(0, va_rf (some a0)), (1, .int x1), (2, .int x2)] [] := by
  intro a0 x1 x2 σ hw
  unfold w_X12_give_19 at hw
  refine v_iconst X 0 (gD D_X12_give_0 9 rfl) (by decide) ?_
  exact v_sub [0] [0, 1, 2] rfl rfl (t_X12_give_20 X hr hin htr  a0 x1 x2 0 σ hw)
set_option maxRecDepth 100000 in
set_option maxHeartbeats 4000000 in
theorem c_X12_give {l : Launch} {G : GX} (htr : l.stackTraces = false) {σ : St} {a0 : Nat} {x1 : Int32} {x2 : Int32} {Q : Int32 → St → Prop} (ht : tvOk σ [(some a0, 13)]) (hw : w_X12_give a0 x1 x2 σ Q) : MI l G 2 σ yX12_give cX12_give 4 (some .int) 2 0 0 [va_rf (some a0), .int x1, .int x2] Q := by
  unfold w_X12_give at hw
  refine m_start RX12 (by decide) htr ht (Nat.le_of_ble_eq_true rfl) rfl (lv := [(0, va_rf (some a0)), (1, .int x1), (2, .int x2)]) (d := 2) (fun p e s m args below meth c X hr hin => ?_)
  refine v_iload_n X 1 rfl (gD D_X12_give_0 0 rfl) rfl ?_
  refine v_callSi X (As := [.int x1]) (rest := []) (nA := 1) 0 0 0 0 (fun ht => c_X12_isRobot htr (ht.sub [] rfl) hw) (Or.inl rfl) lk_sRX12_309 (by decide +kernel) rfl rfl (by decide) (by decide) (by decide) rfl rfl (gD D_X12_give_0 1 rfl) (fun x51 s52 hq _ _ => ?_)
  replace hw := hq
  clear hq
  refine v_if_eq X 19 (gD D_X12_give_0 2 rfl) (by decide) (fun c53 => ?_) (fun c53 => ?_)
  · replace hw := hw.1 c53
    exact v_sub [0] [0, 1, 2] rfl rfl (t_X12_give_19 X hr hin htr  a0 x1 x2 s52 hw)
  · replace hw := hw.2 c53
    refine v_aload_n X 0 rfl (gD D_X12_give_0 3 rfl) rfl ?_
    refine v_iload_n X 2 rfl (gD D_X12_give_0 4 rfl) rfl ?_
    refine v_callVi X (As := [.int x2]) (rest := []) (nA := 1) 0 0 0 0 (fun ht => c_X12_isTask htr (ht.sub [0] rfl) hw) (Or.inl rfl) 0 (κ := 13) rfl (by decide) (rfl : gCl[12]? = some (RX12, TX12, 65)) lk_vRX12_321 (by decide +kernel) rfl rfl (by decide) (by decide) (by decide) rfl rfl (gD D_X12_give_0 5 rfl) (fun x67 s68 hq _ _ => ?_)
    replace hw := hq
    clear hq
    refine v_if_eq X 19 (gD D_X12_give_0 6 rfl) (by decide) (fun c69 => ?_) (fun c69 => ?_)
    · replace hw := hw.1 c69
      exact v_sub [0] [0, 1, 2] rfl rfl (t_X12_give_19 X hr hin htr  a0 x1 x2 s68 hw)
    · replace hw := hw.2 c69
      refine v_iconst X 1 (gD D_X12_give_0 7 rfl) (by decide) ?_
      refine v_goto X 20 (gD D_X12_give_0 8 rfl) (by decide) ?_
      exact v_sub [0] [0, 1, 2] rfl rfl (t_X12_give_20 X hr hin htr  a0 x1 x2 1 s68 hw)
set_option maxRecDepth 100000 in
set_option maxHeartbeats 4000000 in
theorem t_X12_held_43 {p : Program} {l : Launch} {e : Env} {s : State} {m : MethodId} {args : Array Value} {below : List Frame} {meth : Method} {c : Code} {G : GX} {σ0 : St} {mc ms : Nat} {Q : Int32 → St → Prop} (X : VC p l (rmD 2 mc ms) s m args meth c G 2 mc ms 6 RX12 cX12_held) (hr : meth.sig.returnType = (some .int)) (hin : meth.name = yX12_held.name) (htr : l.stackTraces = false) : ∀ (f : Nat) (a0 : Nat) (x1 : Int32) (x2 : Int32) (x3 : Int32) (x4 : Int32) (x5 : Int32) (σ : St), w_X12_held_43 Q  f a0 x1 x2 x3 x4 x5 σ → V p l e (rmD 2 mc ms) s m args below meth c (MQ below (va_Qi Q (gB G 2 σ0) (GA G)) args s mc ms (GA G)) G 2 σ0 mc ms 6 σ 0 0 [(some a0, 13)] 43 [(0, va_rf (some a0)), (1, .int x1), (2, .int x2), (3, .int x3), (4, .int x4), (5, .int x5)] [] := by
  intro f
  induction f with
  | zero => intro a0 x1 x2 x3 x4 x5 σ hw; exact hw.elim
  | succ f ih =>
    intro a0 x1 x2 x3 x4 x5 σ hw
    unfold w_X12_held_43 at hw
    refine v_iload X 5 rfl (gD D_X12_held_0 23 rfl) ?_
    refine v_aload_n X 0 rfl (gD D_X12_held_0 24 rfl) rfl ?_
    refine v_getI X RX12 TX12 65 13 12 (by decide) rfl gin12 39 1239 RX12 (Or.inl rfl) 0 rfl rfl (by decide) lk_fRX12_203 (gD D_X12_held_0 25 rfl) ?_
    refine v_icmp_ge X 109 (gD D_X12_held_0 26 rfl) (by decide) (fun c57 => ?_) (fun c57 => ?_)
    · replace hw := hw.1 c57
      refine v_iload X 4 rfl (gD D_X12_held_0 58 rfl) ?_
      exact v_iret X hr hw (gD D_X12_held_0 59 rfl)
    · replace hw := hw.2 c57
      refine v_iload X 4 rfl (gD D_X12_held_0 27 rfl) ?_
      refine v_aload_n X 0 rfl (gD D_X12_held_0 28 rfl) rfl ?_
      refine v_getR X RX12 TX12 65 13 12 (by decide) rfl gin12 40 1240 RX12 (Or.inl rfl) 0 21 rfl rfl rfl (by decide) lk_fRX12_107 (gD D_X12_held_0 29 rfl) (fun o58 eo58 => ?_)
      replace hw := hw o58 eo58
      refine v_iload X 5 rfl (gD D_X12_held_0 30 rfl) ?_
      obtain ⟨a59, rfl, hw⟩ := hw
      obtain ⟨h60, hw⟩ := hw
      refine v_iald X 0 rfl (by decide) h60 (gD D_X12_held_0 31 rfl) ?_
      refine v_iconst X 3 (gD D_X12_held_0 32 rfl) (by decide) ?_
      refine v_idiv X (gD D_X12_held_0 33 rfl) (by decide) ?_
      refine v_iload_n X 1 rfl (gD D_X12_held_0 34 rfl) rfl ?_
      refine v_icmp_ne X 99 (gD D_X12_held_0 35 rfl) (by decide) (fun c61 => ?_) (fun c61 => ?_)
      · replace hw := hw.1 c61
        refine v_iconst X 0 (gD D_X12_held_0 53 rfl) (by decide) ?_
        refine v_iadd X (gD D_X12_held_0 54 rfl) ?_
        refine v_topi (fun x62 ex62 => ?_)
        replace hw := hw x62 ex62
        refine v_istore X [(4, .int x62), (0, va_rf (some a0)), (1, .int x1), (2, .int x2), (3, .int x3), (5, .int x5)] (gD D_X12_held_0 55 rfl) (by decide) rfl ?_
        refine v_iinc X (x5 + 1) 5 rfl [(5, .int (x5 + 1)), (4, .int x62), (0, va_rf (some a0)), (1, .int x1), (2, .int x2), (3, .int x3)] (gD D_X12_held_0 56 rfl) rfl (by decide) rfl ?_
        refine v_goto X 43 (gD D_X12_held_0 57 rfl) (by decide) ?_
        exact v_sub [1] [2, 3, 4, 5, 1, 0] rfl rfl (ih a0 x1 x2 x3 x62 (x5 + 1) σ hw)
      · replace hw := hw.2 c61
        refine v_aload_n X 0 rfl (gD D_X12_held_0 36 rfl) rfl ?_
        refine v_getR X RX12 TX12 65 13 12 (by decide) rfl gin12 41 1241 RX12 (Or.inl rfl) 1 21 rfl rfl rfl (by decide) lk_fRX12_110 (gD D_X12_held_0 37 rfl) (fun o63 eo63 => ?_)
        replace hw := hw o63 eo63
        refine v_iload X 5 rfl (gD D_X12_held_0 38 rfl) ?_
        obtain ⟨a64, rfl, hw⟩ := hw
        obtain ⟨h65, hw⟩ := hw
        refine v_iald X 0 rfl (by decide) h65 (gD D_X12_held_0 39 rfl) ?_
        refine v_iload_n X 2 rfl (gD D_X12_held_0 40 rfl) rfl ?_
        refine v_icmp_ne X 99 (gD D_X12_held_0 41 rfl) (by decide) (fun c66 => ?_) (fun c66 => ?_)
        · replace hw := hw.1 c66
          refine v_iconst X 0 (gD D_X12_held_0 53 rfl) (by decide) ?_
          refine v_iadd X (gD D_X12_held_0 54 rfl) ?_
          refine v_topi (fun x67 ex67 => ?_)
          replace hw := hw x67 ex67
          refine v_istore X [(4, .int x67), (0, va_rf (some a0)), (1, .int x1), (2, .int x2), (3, .int x3), (5, .int x5)] (gD D_X12_held_0 55 rfl) (by decide) rfl ?_
          refine v_iinc X (x5 + 1) 5 rfl [(5, .int (x5 + 1)), (4, .int x67), (0, va_rf (some a0)), (1, .int x1), (2, .int x2), (3, .int x3)] (gD D_X12_held_0 56 rfl) rfl (by decide) rfl ?_
          refine v_goto X 43 (gD D_X12_held_0 57 rfl) (by decide) ?_
          exact v_sub [2] [2, 3, 4, 5, 1, 0] rfl rfl (ih a0 x1 x2 x3 x67 (x5 + 1) σ hw)
        · replace hw := hw.2 c66
          refine v_aload_n X 0 rfl (gD D_X12_held_0 42 rfl) rfl ?_
          refine v_getR X RX12 TX12 65 13 12 (by decide) rfl gin12 42 1242 RX12 (Or.inl rfl) 2 21 rfl rfl rfl (by decide) lk_fRX12_113 (gD D_X12_held_0 43 rfl) (fun o68 eo68 => ?_)
          replace hw := hw o68 eo68
          refine v_iload X 5 rfl (gD D_X12_held_0 44 rfl) ?_
          obtain ⟨a69, rfl, hw⟩ := hw
          obtain ⟨h70, hw⟩ := hw
          refine v_iald X 0 rfl (by decide) h70 (gD D_X12_held_0 45 rfl) ?_
          refine v_iload_n X 3 rfl (gD D_X12_held_0 46 rfl) rfl ?_
          refine v_icmp_ne X 99 (gD D_X12_held_0 47 rfl) (by decide) (fun c71 => ?_) (fun c71 => ?_)
          · replace hw := hw.1 c71
            refine v_iconst X 0 (gD D_X12_held_0 53 rfl) (by decide) ?_
            refine v_iadd X (gD D_X12_held_0 54 rfl) ?_
            refine v_topi (fun x72 ex72 => ?_)
            replace hw := hw x72 ex72
            refine v_istore X [(4, .int x72), (0, va_rf (some a0)), (1, .int x1), (2, .int x2), (3, .int x3), (5, .int x5)] (gD D_X12_held_0 55 rfl) (by decide) rfl ?_
            refine v_iinc X (x5 + 1) 5 rfl [(5, .int (x5 + 1)), (4, .int x72), (0, va_rf (some a0)), (1, .int x1), (2, .int x2), (3, .int x3)] (gD D_X12_held_0 56 rfl) rfl (by decide) rfl ?_
            refine v_goto X 43 (gD D_X12_held_0 57 rfl) (by decide) ?_
            exact v_sub [3] [2, 3, 4, 5, 1, 0] rfl rfl (ih a0 x1 x2 x3 x72 (x5 + 1) σ hw)
          · replace hw := hw.2 c71
            refine v_aload_n X 0 rfl (gD D_X12_held_0 48 rfl) rfl ?_
            refine v_getR X RX12 TX12 65 13 12 (by decide) rfl gin12 43 1243 RX12 (Or.inl rfl) 3 21 rfl rfl rfl (by decide) lk_fRX12_116 (gD D_X12_held_0 49 rfl) (fun o73 eo73 => ?_)
            replace hw := hw o73 eo73
            refine v_iload X 5 rfl (gD D_X12_held_0 50 rfl) ?_
            obtain ⟨a74, rfl, hw⟩ := hw
            obtain ⟨h75, hw⟩ := hw
            refine v_iald X 0 rfl (by decide) h75 (gD D_X12_held_0 51 rfl) ?_
            refine v_goto X 100 (gD D_X12_held_0 52 rfl) (by decide) ?_
            refine v_iadd X (gD D_X12_held_0 54 rfl) ?_
            refine v_topi (fun x76 ex76 => ?_)
            replace hw := hw x76 ex76
            refine v_istore X [(4, .int x76), (0, va_rf (some a0)), (1, .int x1), (2, .int x2), (3, .int x3), (5, .int x5)] (gD D_X12_held_0 55 rfl) (by decide) rfl ?_
            refine v_iinc X (x5 + 1) 5 rfl [(5, .int (x5 + 1)), (4, .int x76), (0, va_rf (some a0)), (1, .int x1), (2, .int x2), (3, .int x3)] (gD D_X12_held_0 56 rfl) rfl (by decide) rfl ?_
            refine v_goto X 43 (gD D_X12_held_0 57 rfl) (by decide) ?_
            exact v_sub [4] [2, 3, 4, 5, 1, 0] rfl rfl (ih a0 x1 x2 x3 x76 (x5 + 1) σ hw)
set_option maxRecDepth 100000 in
set_option maxHeartbeats 4000000 in
theorem t_X12_held_29 {p : Program} {l : Launch} {e : Env} {s : State} {m : MethodId} {args : Array Value} {below : List Frame} {meth : Method} {c : Code} {G : GX} {σ0 : St} {mc ms : Nat} {Q : Int32 → St → Prop} (X : VC p l (rmD 2 mc ms) s m args meth c G 2 mc ms 6 RX12 cX12_held) (hr : meth.sig.returnType = (some .int)) (hin : meth.name = yX12_held.name) (htr : l.stackTraces = false) : ∀ (a0 : Nat) (x1 : Int32) (x2 : Int32) (x3 : Int32) (as0 : Nat) (xs1 : Int32) (σ : St), w_X12_held_29 Q  a0 x1 x2 x3 as0 xs1 σ → V p l e (rmD 2 mc ms) s m args below meth c (MQ below (va_Qi Q (gB G 2 σ0) (GA G)) args s mc ms (GA G)) G 2 σ0 mc ms 6 σ 0 0 [(some a0, 13), (some as0, 13)] 29 [(0, va_rf (some a0)), (1, .int x1), (2, .int x2), (3, .int x3)] [.int xs1, va_rf (some as0)] := by
  intro a0 x1 x2 x3 as0 xs1 σ hw
  unfold w_X12_held_29 at hw
  refine v_callVi X (As := [.int xs1]) (rest := []) (nA := 1) 0 0 0 0 (fun ht => c_X12_holds htr (ht.sub [1] rfl) hw) (Or.inl rfl) 1 (κ := 13) rfl (by decide) (rfl : gCl[12]? = some (RX12, TX12, 65)) lk_vRX12_223 (by decide +kernel) rfl rfl (by decide) (by decide) (by decide) rfl rfl (gD D_X12_held_0 15 rfl) (fun x54 s55 hq _ _ => ?_)
  replace hw := hq
  clear hq
  refine v_if_ne X 37 (gD D_X12_held_0 16 rfl) (by decide) (fun c56 => ?_) (fun c56 => ?_)
  · replace hw := hw.1 c56
    refine v_iconst X 0 (gD D_X12_held_0 19 rfl) (by decide) ?_
    refine v_istore X [(4, .int 0), (0, va_rf (some a0)), (1, .int x1), (2, .int x2), (3, .int x3)] (gD D_X12_held_0 20 rfl) (by decide) rfl ?_
    refine v_iconst X 0 (gD D_X12_held_0 21 rfl) (by decide) ?_
    refine v_istore X [(5, .int 0), (4, .int 0), (0, va_rf (some a0)), (1, .int x1), (2, .int x2), (3, .int x3)] (gD D_X12_held_0 22 rfl) (by decide) rfl ?_
    obtain ⟨f77, hw⟩ := hw
    exact v_sub [0] [2, 3, 4, 5, 1, 0] rfl rfl (t_X12_held_43 X hr hin htr  f77 a0 x1 x2 x3 0 0 s55 hw)
  · replace hw := hw.2 c56
    refine v_iconst X 0 (gD D_X12_held_0 17 rfl) (by decide) ?_
    exact v_iret X hr hw (gD D_X12_held_0 18 rfl)
set_option maxRecDepth 100000 in
set_option maxHeartbeats 4000000 in
theorem t_X12_held_28 {p : Program} {l : Launch} {e : Env} {s : State} {m : MethodId} {args : Array Value} {below : List Frame} {meth : Method} {c : Code} {G : GX} {σ0 : St} {mc ms : Nat} {Q : Int32 → St → Prop} (X : VC p l (rmD 2 mc ms) s m args meth c G 2 mc ms 6 RX12 cX12_held) (hr : meth.sig.returnType = (some .int)) (hin : meth.name = yX12_held.name) (htr : l.stackTraces = false) : ∀ (a0 : Nat) (x1 : Int32) (x2 : Int32) (x3 : Int32) (as0 : Nat) (σ : St), w_X12_held_28 Q  a0 x1 x2 x3 as0 σ → V p l e (rmD 2 mc ms) s m args below meth c (MQ below (va_Qi Q (gB G 2 σ0) (GA G)) args s mc ms (GA G)) G 2 σ0 mc ms 6 σ 0 0 [(some a0, 13), (some as0, 13)] 28 [(0, va_rf (some a0)), (1, .int x1), (2, .int x2), (3, .int x3)] [va_rf (some as0)] := by
  intro a0 x1 x2 x3 as0 σ hw
  unfold w_X12_held_28 at hw
  refine v_iconst X 1 (gD D_X12_held_0 14 rfl) (by decide) ?_
  exact v_sub [0, 1] [0, 1, 2, 3] rfl rfl (t_X12_held_29 X hr hin htr  a0 x1 x2 x3 as0 1 σ hw)
set_option maxRecDepth 100000 in
set_option maxHeartbeats 4000000 in
theorem c_X12_held {l : Launch} {G : GX} (htr : l.stackTraces = false) {σ : St} {a0 : Nat} {x1 : Int32} {x2 : Int32} {x3 : Int32} {Q : Int32 → St → Prop} (ht : tvOk σ [(some a0, 13)]) (hw : w_X12_held a0 x1 x2 x3 σ Q) : MI l G 2 σ yX12_held cX12_held 6 (some .int) 2 0 0 [va_rf (some a0), .int x1, .int x2, .int x3] Q := by
  unfold w_X12_held at hw
  refine m_start RX12 (by decide) htr ht (Nat.le_of_ble_eq_true rfl) rfl (lv := [(0, va_rf (some a0)), (1, .int x1), (2, .int x2), (3, .int x3)]) (d := 2) (fun p e s m args below meth c X hr hin => ?_)
  refine v_aload_n X 0 rfl (gD D_X12_held_0 0 rfl) rfl ?_
  refine v_aload_n X 0 rfl (gD D_X12_held_0 1 rfl) rfl ?_
  refine v_iload_n X 1 rfl (gD D_X12_held_0 2 rfl) rfl ?_
  refine v_callVi X (As := [.int x1]) (rest := [va_rf (some a0)]) (nA := 1) 0 0 0 0 (fun ht => c_X12_isOrder htr (ht.sub [0] rfl) hw) (Or.inl rfl) 0 (κ := 13) rfl (by decide) (rfl : gCl[12]? = some (RX12, TX12, 65)) lk_vRX12_287 (by decide +kernel) rfl rfl (by simp [rf_cat, ct_i]) (by decide) (by decide) rfl rfl (gD D_X12_held_0 3 rfl) (fun x51 s52 hq _ _ => ?_)
  replace hw := hq
  clear hq
  refine v_if_eq X 28 (gD D_X12_held_0 4 rfl) (by decide) (fun c53 => ?_) (fun c53 => ?_)
  · replace hw := hw.1 c53
    exact v_sub [0, 0] [0, 1, 2, 3] rfl rfl (t_X12_held_28 X hr hin htr  a0 x1 x2 x3 a0 s52 hw)
  · replace hw := hw.2 c53
    refine v_iload_n X 2 rfl (gD D_X12_held_0 5 rfl) rfl ?_
    refine v_callSi X (As := [.int x2]) (rest := [va_rf (some a0)]) (nA := 1) 0 0 0 0 (fun ht => c_X12_isSlot htr (ht.sub [] rfl) hw) (Or.inl rfl) lk_sRX12_217 (by decide +kernel) rfl rfl (by simp [rf_cat, ct_i]) (by decide) (by decide) rfl rfl (gD D_X12_held_0 6 rfl) (fun x78 s79 hq _ _ => ?_)
    replace hw := hq
    clear hq
    refine v_if_eq X 28 (gD D_X12_held_0 7 rfl) (by decide) (fun c80 => ?_) (fun c80 => ?_)
    · replace hw := hw.1 c80
      exact v_sub [0, 0] [0, 1, 2, 3] rfl rfl (t_X12_held_28 X hr hin htr  a0 x1 x2 x3 a0 s79 hw)
    · replace hw := hw.2 c80
      refine v_aload_n X 0 rfl (gD D_X12_held_0 8 rfl) rfl ?_
      refine v_iload_n X 3 rfl (gD D_X12_held_0 9 rfl) rfl ?_
      refine v_callVi X (As := [.int x3]) (rest := [va_rf (some a0)]) (nA := 1) 0 0 0 0 (fun ht => c_X12_isLot htr (ht.sub [0] rfl) hw) (Or.inl rfl) 0 (κ := 13) rfl (by decide) (rfl : gCl[12]? = some (RX12, TX12, 65)) lk_vRX12_232 (by decide +kernel) rfl rfl (by simp [rf_cat, ct_i]) (by decide) (by decide) rfl rfl (gD D_X12_held_0 10 rfl) (fun x81 s82 hq _ _ => ?_)
      replace hw := hq
      clear hq
      refine v_if_eq X 28 (gD D_X12_held_0 11 rfl) (by decide) (fun c83 => ?_) (fun c83 => ?_)
      · replace hw := hw.1 c83
        exact v_sub [0, 0] [0, 1, 2, 3] rfl rfl (t_X12_held_28 X hr hin htr  a0 x1 x2 x3 a0 s82 hw)
      · replace hw := hw.2 c83
        refine v_iconst X 0 (gD D_X12_held_0 12 rfl) (by decide) ?_
        refine v_goto X 29 (gD D_X12_held_0 13 rfl) (by decide) ?_
        exact v_sub [0, 0] [0, 1, 2, 3] rfl rfl (t_X12_held_29 X hr hin htr  a0 x1 x2 x3 a0 0 s82 hw)
set_option maxRecDepth 100000 in
set_option maxHeartbeats 4000000 in
theorem t_X12_isAsked_23 {p : Program} {l : Launch} {e : Env} {s : State} {m : MethodId} {args : Array Value} {below : List Frame} {meth : Method} {c : Code} {G : GX} {σ0 : St} {mc ms : Nat} {Q : Int32 → St → Prop} (X : VC p l (rmD 2 mc ms) s m args meth c G 2 mc ms 4 RX12 cX12_isAsked) (hr : meth.sig.returnType = (some .boolean)) (hin : meth.name = yX12_isAsked.name) (htr : l.stackTraces = false) : ∀ (as0 : Nat) (xs1 : Int32) (σ : St), w_X12_isAsked_23 Q  as0 xs1 σ → V p l e (rmD 2 mc ms) s m args below meth c (MQ below (va_Qi Q (gB G 2 σ0) (GA G)) args s mc ms (GA G)) G 2 σ0 mc ms 4 σ 0 0 [(some as0, 13)] 23 [] [.int xs1, va_rf (some as0)] := by
  intro as0 xs1 σ hw
  unfold w_X12_isAsked_23 at hw
  refine v_callVi X (As := [.int xs1]) (rest := []) (nA := 1) 0 0 0 0 (fun ht => c_X12_holds htr (ht.sub [0] rfl) hw) (Or.inl rfl) 0 (κ := 13) rfl (by decide) (rfl : gCl[12]? = some (RX12, TX12, 65)) lk_vRX12_223 (by decide +kernel) rfl rfl (by decide) (by decide) (by decide) rfl rfl (gD D_X12_isAsked_0 13 rfl) (fun x54 s55 hq _ _ => ?_)
  replace hw := hq
  clear hq
  exact v_zret X hr hw.1 hw.2 (gD D_X12_isAsked_0 14 rfl)
set_option maxRecDepth 100000 in
set_option maxHeartbeats 4000000 in
theorem t_X12_isAsked_22 {p : Program} {l : Launch} {e : Env} {s : State} {m : MethodId} {args : Array Value} {below : List Frame} {meth : Method} {c : Code} {G : GX} {σ0 : St} {mc ms : Nat} {Q : Int32 → St → Prop} (X : VC p l (rmD 2 mc ms) s m args meth c G 2 mc ms 4 RX12 cX12_isAsked) (hr : meth.sig.returnType = (some .boolean)) (hin : meth.name = yX12_isAsked.name) (htr : l.stackTraces = false) : ∀ (as0 : Nat) (σ : St), w_X12_isAsked_22 Q  as0 σ → V p l e (rmD 2 mc ms) s m args below meth c (MQ below (va_Qi Q (gB G 2 σ0) (GA G)) args s mc ms (GA G)) G 2 σ0 mc ms 4 σ 0 0 [(some as0, 13)] 22 [] [va_rf (some as0)] := by
  intro as0 σ hw
  unfold w_X12_isAsked_22 at hw
  refine v_iconst X 1 (gD D_X12_isAsked_0 12 rfl) (by decide) ?_
  exact v_sub [0] [] rfl rfl (t_X12_isAsked_23 X hr hin htr  as0 1 σ hw)
set_option maxRecDepth 100000 in
set_option maxHeartbeats 4000000 in
theorem c_X12_isAsked {l : Launch} {G : GX} (htr : l.stackTraces = false) {σ : St} {a0 : Nat} {x1 : Int32} {x2 : Int32} {x3 : Int32} {Q : Int32 → St → Prop} (ht : tvOk σ [(some a0, 13)]) (hw : w_X12_isAsked a0 x1 x2 x3 σ Q) : MI l G 2 σ yX12_isAsked cX12_isAsked 4 (some .boolean) 2 0 0 [va_rf (some a0), .int x1, .int x2, .int x3] Q := by
  unfold w_X12_isAsked at hw
  refine m_start RX12 (by decide) htr ht (Nat.le_of_ble_eq_true rfl) rfl (lv := [(0, va_rf (some a0)), (1, .int x1), (2, .int x2), (3, .int x3)]) (d := 2) (fun p e s m args below meth c X hr hin => ?_)
  refine v_aload_n X 0 rfl (gD D_X12_isAsked_0 0 rfl) rfl ?_
  refine v_iload_n X 1 rfl (gD D_X12_isAsked_0 1 rfl) rfl ?_
  refine v_iconst X 0 (gD D_X12_isAsked_0 2 rfl) (by decide) ?_
  refine v_iload_n X 2 rfl (gD D_X12_isAsked_0 3 rfl) rfl ?_
  refine v_callSi X (As := [.int x1, .int 0, .int x2]) (rest := [va_rf (some a0)]) (nA := 3) 0 0 0 0 (fun ht => c_X12_isIn htr (ht.sub [] rfl) hw) (Or.inl rfl) lk_sRX12_183 (by decide +kernel) rfl rfl (by simp [rf_cat, ct_i]) (by decide) (by decide) rfl rfl (gD D_X12_isAsked_0 4 rfl) (fun x51 s52 hq _ _ => ?_)
  replace hw := hq
  clear hq
  refine v_if_eq X 22 (gD D_X12_isAsked_0 5 rfl) (by decide) (fun c53 => ?_) (fun c53 => ?_)
  · replace hw := hw.1 c53
    exact v_sub [0] [] rfl rfl (t_X12_isAsked_22 X hr hin htr  a0 s52 hw)
  · replace hw := hw.2 c53
    refine v_aload_n X 0 rfl (gD D_X12_isAsked_0 6 rfl) rfl ?_
    refine v_iload_n X 3 rfl (gD D_X12_isAsked_0 7 rfl) rfl ?_
    refine v_callVi X (As := [.int x3]) (rest := [va_rf (some a0)]) (nA := 1) 0 0 0 0 (fun ht => c_X12_isLot htr (ht.sub [0] rfl) hw) (Or.inl rfl) 0 (κ := 13) rfl (by decide) (rfl : gCl[12]? = some (RX12, TX12, 65)) lk_vRX12_232 (by decide +kernel) rfl rfl (by simp [rf_cat, ct_i]) (by decide) (by decide) rfl rfl (gD D_X12_isAsked_0 8 rfl) (fun x56 s57 hq _ _ => ?_)
    replace hw := hq
    clear hq
    refine v_if_eq X 22 (gD D_X12_isAsked_0 9 rfl) (by decide) (fun c58 => ?_) (fun c58 => ?_)
    · replace hw := hw.1 c58
      exact v_sub [0] [] rfl rfl (t_X12_isAsked_22 X hr hin htr  a0 s57 hw)
    · replace hw := hw.2 c58
      refine v_iconst X 0 (gD D_X12_isAsked_0 10 rfl) (by decide) ?_
      refine v_goto X 23 (gD D_X12_isAsked_0 11 rfl) (by decide) ?_
      exact v_sub [0] [] rfl rfl (t_X12_isAsked_23 X hr hin htr  a0 0 s57 hw)
set_option maxRecDepth 100000 in
set_option maxHeartbeats 4000000 in
theorem t_X12_isBarredIn_5 {p : Program} {l : Launch} {e : Env} {s : State} {m : MethodId} {args : Array Value} {below : List Frame} {meth : Method} {c : Code} {G : GX} {σ0 : St} {mc ms : Nat} {Q : Int32 → St → Prop} (X : VC p l (rmD 2 mc ms) s m args meth c G 2 mc ms 5 RX12 cX12_isBarredIn) (hr : meth.sig.returnType = (some .boolean)) (hin : meth.name = yX12_isBarredIn.name) (htr : l.stackTraces = false) : ∀ (f : Nat) (a0 : Nat) (x1 : Int32) (x2 : Int32) (x3 : Int32) (x4 : Int32) (σ : St), w_X12_isBarredIn_5 Q  f a0 x1 x2 x3 x4 σ → V p l e (rmD 2 mc ms) s m args below meth c (MQ below (va_Qi Q (gB G 2 σ0) (GA G)) args s mc ms (GA G)) G 2 σ0 mc ms 5 σ 0 0 [(some a0, 13)] 5 [(0, va_rf (some a0)), (1, .int x1), (2, .int x2), (3, .int x3), (4, .int x4)] [] := by
  intro f
  induction f with
  | zero => intro a0 x1 x2 x3 x4 σ hw; exact hw.elim
  | succ f ih =>
    intro a0 x1 x2 x3 x4 σ hw
    unfold w_X12_isBarredIn_5 at hw
    refine v_iload X 4 rfl (gD D_X12_isBarredIn_0 4 rfl) ?_
    refine v_bipush X 6 (gD D_X12_isBarredIn_0 5 rfl) (by decide) ?_
    refine v_icmp_ge X 68 (gD D_X12_isBarredIn_0 6 rfl) (by decide) (fun c51 => ?_) (fun c51 => ?_)
    · replace hw := hw.1 c51
      refine v_iload_n X 3 rfl (gD D_X12_isBarredIn_0 38 rfl) rfl ?_
      exact v_zret X hr hw.1 hw.2 (gD D_X12_isBarredIn_0 39 rfl)
    · replace hw := hw.2 c51
      refine v_iload_n X 3 rfl (gD D_X12_isBarredIn_0 7 rfl) rfl ?_
      refine v_if_ne X 56 (gD D_X12_isBarredIn_0 8 rfl) (by decide) (fun c52 => ?_) (fun c52 => ?_)
      · replace hw := hw.1 c52
        refine v_iconst X 1 (gD D_X12_isBarredIn_0 32 rfl) (by decide) ?_
        refine v_goto X 61 (gD D_X12_isBarredIn_0 33 rfl) (by decide) ?_
        refine v_istore_n X [(3, .int 1), (0, va_rf (some a0)), (1, .int x1), (2, .int x2), (4, .int x4)] (gD D_X12_isBarredIn_0 35 rfl) rfl (by decide) rfl ?_
        refine v_iinc X (x4 + 1) 4 rfl [(4, .int (x4 + 1)), (3, .int 1), (0, va_rf (some a0)), (1, .int x1), (2, .int x2)] (gD D_X12_isBarredIn_0 36 rfl) rfl (by decide) rfl ?_
        refine v_goto X 5 (gD D_X12_isBarredIn_0 37 rfl) (by decide) ?_
        exact v_sub [0] [2, 3, 4, 1, 0] rfl rfl (ih a0 x1 x2 1 (x4 + 1) σ hw)
      · replace hw := hw.2 c52
        refine v_iload X 4 rfl (gD D_X12_isBarredIn_0 9 rfl) ?_
        refine v_iload_n X 2 rfl (gD D_X12_isBarredIn_0 10 rfl) rfl ?_
        refine v_icmp_eq X 60 (gD D_X12_isBarredIn_0 11 rfl) (by decide) (fun c53 => ?_) (fun c53 => ?_)
        · replace hw := hw.1 c53
          refine v_iconst X 0 (gD D_X12_isBarredIn_0 34 rfl) (by decide) ?_
          refine v_istore_n X [(3, .int 0), (0, va_rf (some a0)), (1, .int x1), (2, .int x2), (4, .int x4)] (gD D_X12_isBarredIn_0 35 rfl) rfl (by decide) rfl ?_
          refine v_iinc X (x4 + 1) 4 rfl [(4, .int (x4 + 1)), (3, .int 0), (0, va_rf (some a0)), (1, .int x1), (2, .int x2)] (gD D_X12_isBarredIn_0 36 rfl) rfl (by decide) rfl ?_
          refine v_goto X 5 (gD D_X12_isBarredIn_0 37 rfl) (by decide) ?_
          exact v_sub [0] [2, 3, 4, 1, 0] rfl rfl (ih a0 x1 x2 0 (x4 + 1) σ hw)
        · replace hw := hw.2 c53
          refine v_aload_n X 0 rfl (gD D_X12_isBarredIn_0 12 rfl) rfl ?_
          refine v_getR X RX12 TX12 65 13 12 (by decide) rfl gin12 14 1214 RX12 (Or.inl rfl) 0 22 rfl rfl rfl (by decide) lk_fRX12_40 (gD D_X12_isBarredIn_0 13 rfl) (fun o54 eo54 => ?_)
          replace hw := hw o54 eo54
          refine v_iconst X 4 (gD D_X12_isBarredIn_0 14 rfl) (by decide) ?_
          refine v_aload_n X 0 rfl (gD D_X12_isBarredIn_0 15 rfl) rfl ?_
          refine v_getR X RX12 TX12 65 13 12 (by decide) rfl gin12 12 1212 RX12 (Or.inl rfl) 1 21 rfl rfl rfl (by decide) lk_fRX12_34 (gD D_X12_isBarredIn_0 16 rfl) (fun o55 eo55 => ?_)
          replace hw := hw o55 eo55
          refine v_iload X 4 rfl (gD D_X12_isBarredIn_0 17 rfl) ?_
          obtain ⟨a56, rfl, hw⟩ := hw
          obtain ⟨h57, hw⟩ := hw
          refine v_iald X 0 rfl (by decide) h57 (gD D_X12_isBarredIn_0 18 rfl) ?_
          refine v_imul X (gD D_X12_isBarredIn_0 19 rfl) ?_
          refine v_aload_n X 0 rfl (gD D_X12_isBarredIn_0 20 rfl) rfl ?_
          refine v_getR X RX12 TX12 65 13 12 (by decide) rfl gin12 12 1212 RX12 (Or.inl rfl) 2 21 rfl rfl rfl (by decide) lk_fRX12_34 (gD D_X12_isBarredIn_0 21 rfl) (fun o58 eo58 => ?_)
          replace hw := hw o58 eo58
          refine v_iload_n X 2 rfl (gD D_X12_isBarredIn_0 22 rfl) rfl ?_
          obtain ⟨a59, rfl, hw⟩ := hw
          obtain ⟨h60, hw⟩ := hw
          refine v_iald X 0 rfl (by decide) h60 (gD D_X12_isBarredIn_0 23 rfl) ?_
          refine v_iadd X (gD D_X12_isBarredIn_0 24 rfl) ?_
          obtain ⟨a61, rfl, hw⟩ := hw
          obtain ⟨h62, hw⟩ := hw
          refine v_zald X 2 rfl rfl h62 (gD D_X12_isBarredIn_0 25 rfl) ?_
          refine v_if_eq X 60 (gD D_X12_isBarredIn_0 26 rfl) (by decide) (fun c63 => ?_) (fun c63 => ?_)
          · replace hw := hw.1 c63
            refine v_iconst X 0 (gD D_X12_isBarredIn_0 34 rfl) (by decide) ?_
            refine v_istore_n X [(3, .int 0), (0, va_rf (some a0)), (1, .int x1), (2, .int x2), (4, .int x4)] (gD D_X12_isBarredIn_0 35 rfl) rfl (by decide) rfl ?_
            refine v_iinc X (x4 + 1) 4 rfl [(4, .int (x4 + 1)), (3, .int 0), (0, va_rf (some a0)), (1, .int x1), (2, .int x2)] (gD D_X12_isBarredIn_0 36 rfl) rfl (by decide) rfl ?_
            refine v_goto X 5 (gD D_X12_isBarredIn_0 37 rfl) (by decide) ?_
            exact v_sub [3] [2, 3, 4, 1, 0] rfl rfl (ih a0 x1 x2 0 (x4 + 1) σ hw)
          · replace hw := hw.2 c63
            refine v_aload_n X 0 rfl (gD D_X12_isBarredIn_0 27 rfl) rfl ?_
            refine v_iload_n X 1 rfl (gD D_X12_isBarredIn_0 28 rfl) rfl ?_
            refine v_iload X 4 rfl (gD D_X12_isBarredIn_0 29 rfl) ?_
            refine v_callVi X (As := [.int x1, .int x4]) (rest := []) (nA := 2) 0 0 0 0 (fun ht => c_X12_standsIn htr (ht.sub [3] rfl) hw) (Or.inl rfl) 3 (κ := 13) rfl (by decide) (rfl : gCl[12]? = some (RX12, TX12, 65)) lk_vRX12_261 (by decide +kernel) rfl rfl (by decide) (by decide) (by decide) rfl rfl (gD D_X12_isBarredIn_0 30 rfl) (fun x64 s65 hq _ _ => ?_)
            replace hw := hq
            clear hq
            refine v_if_eq X 60 (gD D_X12_isBarredIn_0 31 rfl) (by decide) (fun c66 => ?_) (fun c66 => ?_)
            · replace hw := hw.1 c66
              refine v_iconst X 0 (gD D_X12_isBarredIn_0 34 rfl) (by decide) ?_
              refine v_istore_n X [(3, .int 0), (0, va_rf (some a0)), (1, .int x1), (2, .int x2), (4, .int x4)] (gD D_X12_isBarredIn_0 35 rfl) rfl (by decide) rfl ?_
              refine v_iinc X (x4 + 1) 4 rfl [(4, .int (x4 + 1)), (3, .int 0), (0, va_rf (some a0)), (1, .int x1), (2, .int x2)] (gD D_X12_isBarredIn_0 36 rfl) rfl (by decide) rfl ?_
              refine v_goto X 5 (gD D_X12_isBarredIn_0 37 rfl) (by decide) ?_
              exact v_sub [3] [2, 3, 4, 1, 0] rfl rfl (ih a0 x1 x2 0 (x4 + 1) s65 hw)
            · replace hw := hw.2 c66
              refine v_iconst X 1 (gD D_X12_isBarredIn_0 32 rfl) (by decide) ?_
              refine v_goto X 61 (gD D_X12_isBarredIn_0 33 rfl) (by decide) ?_
              refine v_istore_n X [(3, .int 1), (0, va_rf (some a0)), (1, .int x1), (2, .int x2), (4, .int x4)] (gD D_X12_isBarredIn_0 35 rfl) rfl (by decide) rfl ?_
              refine v_iinc X (x4 + 1) 4 rfl [(4, .int (x4 + 1)), (3, .int 1), (0, va_rf (some a0)), (1, .int x1), (2, .int x2)] (gD D_X12_isBarredIn_0 36 rfl) rfl (by decide) rfl ?_
              refine v_goto X 5 (gD D_X12_isBarredIn_0 37 rfl) (by decide) ?_
              exact v_sub [3] [2, 3, 4, 1, 0] rfl rfl (ih a0 x1 x2 1 (x4 + 1) s65 hw)
set_option maxRecDepth 100000 in
set_option maxHeartbeats 4000000 in
theorem c_X12_isBarredIn {l : Launch} {G : GX} (htr : l.stackTraces = false) {σ : St} {a0 : Nat} {x1 : Int32} {x2 : Int32} {Q : Int32 → St → Prop} (ht : tvOk σ [(some a0, 13)]) (hw : w_X12_isBarredIn a0 x1 x2 σ Q) : MI l G 2 σ yX12_isBarredIn cX12_isBarredIn 5 (some .boolean) 2 0 0 [va_rf (some a0), .int x1, .int x2] Q := by
  unfold w_X12_isBarredIn at hw
  refine m_start RX12 (by decide) htr ht (Nat.le_of_ble_eq_true rfl) rfl (lv := [(0, va_rf (some a0)), (1, .int x1), (2, .int x2)]) (d := 2) (fun p e s m args below meth c X hr hin => ?_)
  refine v_iconst X 0 (gD D_X12_isBarredIn_0 0 rfl) (by decide) ?_
  refine v_istore_n X [(3, .int 0), (0, va_rf (some a0)), (1, .int x1), (2, .int x2)] (gD D_X12_isBarredIn_0 1 rfl) rfl (by decide) rfl ?_
  refine v_iconst X 0 (gD D_X12_isBarredIn_0 2 rfl) (by decide) ?_
  refine v_istore X [(4, .int 0), (3, .int 0), (0, va_rf (some a0)), (1, .int x1), (2, .int x2)] (gD D_X12_isBarredIn_0 3 rfl) (by decide) rfl ?_
  obtain ⟨f67, hw⟩ := hw
  exact v_sub [0] [2, 3, 4, 1, 0] rfl rfl (t_X12_isBarredIn_5 X hr hin htr  f67 a0 x1 x2 0 0 σ hw)
set_option maxRecDepth 100000 in
set_option maxHeartbeats 4000000 in
theorem t_X12_isEmpty_16 {p : Program} {l : Launch} {e : Env} {s : State} {m : MethodId} {args : Array Value} {below : List Frame} {meth : Method} {c : Code} {G : GX} {σ0 : St} {mc ms : Nat} {Q : Int32 → St → Prop} (X : VC p l (rmD 2 mc ms) s m args meth c G 2 mc ms 4 RX12 cX12_isEmpty) (hr : meth.sig.returnType = (some .boolean)) (hin : meth.name = yX12_isEmpty.name) (htr : l.stackTraces = false) : ∀ (f : Nat) (a0 : Nat) (x1 : Int32) (x2 : Int32) (x3 : Int32) (σ : St), w_X12_isEmpty_16 Q  f a0 x1 x2 x3 σ → V p l e (rmD 2 mc ms) s m args below meth c (MQ below (va_Qi Q (gB G 2 σ0) (GA G)) args s mc ms (GA G)) G 2 σ0 mc ms 4 σ 0 0 [(some a0, 13)] 16 [(0, va_rf (some a0)), (1, .int x1), (2, .int x2), (3, .int x3)] [] := by
  intro f
  induction f with
  | zero => intro a0 x1 x2 x3 σ hw; exact hw.elim
  | succ f ih =>
    intro a0 x1 x2 x3 σ hw
    unfold w_X12_isEmpty_16 at hw
    refine v_iload_n X 3 rfl (gD D_X12_isEmpty_0 10 rfl) rfl ?_
    refine v_bipush X 6 (gD D_X12_isEmpty_0 11 rfl) (by decide) ?_
    refine v_icmp_ge X 47 (gD D_X12_isEmpty_0 12 rfl) (by decide) (fun c54 => ?_) (fun c54 => ?_)
    · replace hw := hw.1 c54
      refine v_iload_n X 2 rfl (gD D_X12_isEmpty_0 26 rfl) rfl ?_
      exact v_zret X hr hw.1 hw.2 (gD D_X12_isEmpty_0 27 rfl)
    · replace hw := hw.2 c54
      refine v_iload_n X 2 rfl (gD D_X12_isEmpty_0 13 rfl) rfl ?_
      refine v_if_eq X 39 (gD D_X12_isEmpty_0 14 rfl) (by decide) (fun c55 => ?_) (fun c55 => ?_)
      · replace hw := hw.1 c55
        refine v_iconst X 0 (gD D_X12_isEmpty_0 22 rfl) (by decide) ?_
        refine v_istore_n X [(2, .int 0), (0, va_rf (some a0)), (1, .int x1), (3, .int x3)] (gD D_X12_isEmpty_0 23 rfl) rfl (by decide) rfl ?_
        refine v_iinc X (x3 + 1) 3 rfl [(3, .int (x3 + 1)), (2, .int 0), (0, va_rf (some a0)), (1, .int x1)] (gD D_X12_isEmpty_0 24 rfl) rfl (by decide) rfl ?_
        refine v_goto X 16 (gD D_X12_isEmpty_0 25 rfl) (by decide) ?_
        exact v_sub [0] [2, 3, 1, 0] rfl rfl (ih a0 x1 0 (x3 + 1) σ hw)
      · replace hw := hw.2 c55
        refine v_aload_n X 0 rfl (gD D_X12_isEmpty_0 15 rfl) rfl ?_
        refine v_iload_n X 1 rfl (gD D_X12_isEmpty_0 16 rfl) rfl ?_
        refine v_iload_n X 3 rfl (gD D_X12_isEmpty_0 17 rfl) rfl ?_
        refine v_callVi X (As := [.int x1, .int x3]) (rest := []) (nA := 2) 0 0 0 0 (fun ht => c_X12_itemIn htr (ht.sub [0] rfl) hw) (Or.inl rfl) 0 (κ := 13) rfl (by decide) (rfl : gCl[12]? = some (RX12, TX12, 65)) lk_vRX12_214 (by decide +kernel) rfl rfl (by decide) (by decide) (by decide) rfl rfl (gD D_X12_isEmpty_0 18 rfl) (fun x56 s57 hq _ _ => ?_)
        replace hw := hq
        clear hq
        refine v_if_ne X 39 (gD D_X12_isEmpty_0 19 rfl) (by decide) (fun c58 => ?_) (fun c58 => ?_)
        · replace hw := hw.1 c58
          refine v_iconst X 0 (gD D_X12_isEmpty_0 22 rfl) (by decide) ?_
          refine v_istore_n X [(2, .int 0), (0, va_rf (some a0)), (1, .int x1), (3, .int x3)] (gD D_X12_isEmpty_0 23 rfl) rfl (by decide) rfl ?_
          refine v_iinc X (x3 + 1) 3 rfl [(3, .int (x3 + 1)), (2, .int 0), (0, va_rf (some a0)), (1, .int x1)] (gD D_X12_isEmpty_0 24 rfl) rfl (by decide) rfl ?_
          refine v_goto X 16 (gD D_X12_isEmpty_0 25 rfl) (by decide) ?_
          exact v_sub [0] [2, 3, 1, 0] rfl rfl (ih a0 x1 0 (x3 + 1) s57 hw)
        · replace hw := hw.2 c58
          refine v_iconst X 1 (gD D_X12_isEmpty_0 20 rfl) (by decide) ?_
          refine v_goto X 40 (gD D_X12_isEmpty_0 21 rfl) (by decide) ?_
          refine v_istore_n X [(2, .int 1), (0, va_rf (some a0)), (1, .int x1), (3, .int x3)] (gD D_X12_isEmpty_0 23 rfl) rfl (by decide) rfl ?_
          refine v_iinc X (x3 + 1) 3 rfl [(3, .int (x3 + 1)), (2, .int 1), (0, va_rf (some a0)), (1, .int x1)] (gD D_X12_isEmpty_0 24 rfl) rfl (by decide) rfl ?_
          refine v_goto X 16 (gD D_X12_isEmpty_0 25 rfl) (by decide) ?_
          exact v_sub [0] [2, 3, 1, 0] rfl rfl (ih a0 x1 1 (x3 + 1) s57 hw)
set_option maxRecDepth 100000 in
set_option maxHeartbeats 4000000 in
theorem c_X12_isEmpty {l : Launch} {G : GX} (htr : l.stackTraces = false) {σ : St} {a0 : Nat} {x1 : Int32} {Q : Int32 → St → Prop} (ht : tvOk σ [(some a0, 13)]) (hw : w_X12_isEmpty a0 x1 σ Q) : MI l G 2 σ yX12_isEmpty cX12_isEmpty 4 (some .boolean) 2 0 0 [va_rf (some a0), .int x1] Q := by
  unfold w_X12_isEmpty at hw
  refine m_start RX12 (by decide) htr ht (Nat.le_of_ble_eq_true rfl) rfl (lv := [(0, va_rf (some a0)), (1, .int x1)]) (d := 2) (fun p e s m args below meth c X hr hin => ?_)
  refine v_aload_n X 0 rfl (gD D_X12_isEmpty_0 0 rfl) rfl ?_
  refine v_iload_n X 1 rfl (gD D_X12_isEmpty_0 1 rfl) rfl ?_
  refine v_callVi X (As := [.int x1]) (rest := []) (nA := 1) 0 0 0 0 (fun ht => c_X12_roomHeld htr (ht.sub [0] rfl) hw) (Or.inl rfl) 0 (κ := 13) rfl (by decide) (rfl : gCl[12]? = some (RX12, TX12, 65)) lk_vRX12_210 (by decide +kernel) rfl rfl (by decide) (by decide) (by decide) rfl rfl (gD D_X12_isEmpty_0 2 rfl) (fun x51 s52 hq _ _ => ?_)
  replace hw := hq
  clear hq
  refine v_if_ne X 12 (gD D_X12_isEmpty_0 3 rfl) (by decide) (fun c53 => ?_) (fun c53 => ?_)
  · replace hw := hw.1 c53
    refine v_iconst X 0 (gD D_X12_isEmpty_0 6 rfl) (by decide) ?_
    refine v_istore_n X [(2, .int 0), (0, va_rf (some a0)), (1, .int x1)] (gD D_X12_isEmpty_0 7 rfl) rfl (by decide) rfl ?_
    refine v_iconst X 0 (gD D_X12_isEmpty_0 8 rfl) (by decide) ?_
    refine v_istore_n X [(3, .int 0), (2, .int 0), (0, va_rf (some a0)), (1, .int x1)] (gD D_X12_isEmpty_0 9 rfl) rfl (by decide) rfl ?_
    obtain ⟨f59, hw⟩ := hw
    exact v_sub [0] [2, 3, 1, 0] rfl rfl (t_X12_isEmpty_16 X hr hin htr  f59 a0 x1 0 0 s52 hw)
  · replace hw := hw.2 c53
    refine v_iconst X 1 (gD D_X12_isEmpty_0 4 rfl) (by decide) ?_
    refine v_goto X 13 (gD D_X12_isEmpty_0 5 rfl) (by decide) ?_
    refine v_istore_n X [(2, .int 1), (0, va_rf (some a0)), (1, .int x1)] (gD D_X12_isEmpty_0 7 rfl) rfl (by decide) rfl ?_
    refine v_iconst X 0 (gD D_X12_isEmpty_0 8 rfl) (by decide) ?_
    refine v_istore_n X [(3, .int 0), (2, .int 1), (0, va_rf (some a0)), (1, .int x1)] (gD D_X12_isEmpty_0 9 rfl) rfl (by decide) rfl ?_
    obtain ⟨f60, hw⟩ := hw
    exact v_sub [0] [2, 3, 1, 0] rfl rfl (t_X12_isEmpty_16 X hr hin htr  f60 a0 x1 1 0 s52 hw)
set_option maxRecDepth 100000 in
set_option maxHeartbeats 4000000 in
theorem t_X12_item_161 {p : Program} {l : Launch} {e : Env} {s : State} {m : MethodId} {args : Array Value} {below : List Frame} {meth : Method} {c : Code} {G : GX} {σ0 : St} {mc ms : Nat} {Q : St → Prop} (X : VC p l (rmD 2 mc ms) s m args meth c G 2 mc ms 11 RX12 cX12_item) (hr : meth.sig.returnType = none) (hin : meth.name = yX12_item.name) (htr : l.stackTraces = false) : ∀ (a0 : Nat) (x1 : Int32) (x2 : Int32) (x3 : Int32) (x4 : Int32) (x5 : Int32) (x6 : Int32) (as0 : Nat) (xs1 : Int32) (σ : St), w_X12_item_161 Q  a0 x1 x2 x3 x4 x5 x6 as0 xs1 σ → V p l e (rmD 2 mc ms) s m args below meth c (MQ below (va_Qv Q (gB G 2 σ0) (GA G)) args s mc ms (GA G)) G 2 σ0 mc ms 11 σ 0 0 [(some a0, 13), (some as0, 13)] 161 [(0, va_rf (some a0)), (1, .int x1), (2, .int x2), (3, .int x3), (4, .int x4), (5, .int x5), (6, .int x6)] [.int xs1, va_rf (some as0)] := by
  intro a0 x1 x2 x3 x4 x5 x6 as0 xs1 σ hw
  unfold w_X12_item_161 at hw
  refine v_callVi X (As := [.int xs1]) (rest := []) (nA := 1) 0 0 0 0 (fun ht => c_X12_holds htr (ht.sub [1] rfl) hw) (Or.inl rfl) 1 (κ := 13) rfl (by decide) (rfl : gCl[12]? = some (RX12, TX12, 65)) lk_vRX12_223 (by decide +kernel) rfl rfl (by decide) (by decide) (by decide) rfl rfl (gD D_X12_item_0 79 rfl) (fun x61 s62 hq _ _ => ?_)
  replace hw := hq
  clear hq
  refine v_if_eq X 205 (gD D_X12_item_0 80 rfl) (by decide) (fun c63 => ?_) (fun c63 => ?_)
  · replace hw := hw.1 c63
    exact v_vret X hr hw (gD D_X12_item_1 6 rfl)
  · replace hw := hw.2 c63
    refine v_aload_n X 0 rfl (gD D_X12_item_0 81 rfl) rfl ?_
    refine v_getR X RX12 TX12 65 13 12 (by decide) rfl gin12 9 1209 RX12 (Or.inl rfl) 0 21 rfl rfl rfl (by decide) lk_fRX12_25 (gD D_X12_item_0 82 rfl) (fun o64 eo64 => ?_)
    replace hw := hw o64 eo64
    refine v_iload_n X 1 rfl (gD D_X12_item_0 83 rfl) rfl ?_
    refine v_iload_n X 2 rfl (gD D_X12_item_0 84 rfl) rfl ?_
    obtain ⟨a65, rfl, hw⟩ := hw
    obtain ⟨h66, hw⟩ := hw
    refine v_iast X 0 rfl (by decide) (Or.inl rfl) h66 (gD D_X12_item_0 85 rfl) (fun s67 es67 => ?_)
    replace hw := hw s67 es67
    refine v_aload_n X 0 rfl (gD D_X12_item_0 86 rfl) rfl ?_
    refine v_getR X RX12 TX12 65 13 12 (by decide) rfl gin12 10 1210 RX12 (Or.inl rfl) 1 21 rfl rfl rfl (by decide) lk_fRX12_28 (gD D_X12_item_0 87 rfl) (fun o68 eo68 => ?_)
    replace hw := hw o68 eo68
    refine v_iload_n X 1 rfl (gD D_X12_item_0 88 rfl) rfl ?_
    refine v_iload_n X 3 rfl (gD D_X12_item_0 89 rfl) rfl ?_
    obtain ⟨a69, rfl, hw⟩ := hw
    obtain ⟨h70, hw⟩ := hw
    refine v_iast X 0 rfl (by decide) (Or.inl rfl) h70 (gD D_X12_item_0 90 rfl) (fun s71 es71 => ?_)
    replace hw := hw s71 es71
    refine v_aload_n X 0 rfl (gD D_X12_item_0 91 rfl) rfl ?_
    refine v_getR X RX12 TX12 65 13 12 (by decide) rfl gin12 11 1211 RX12 (Or.inl rfl) 2 21 rfl rfl rfl (by decide) lk_fRX12_31 (gD D_X12_item_0 92 rfl) (fun o72 eo72 => ?_)
    replace hw := hw o72 eo72
    refine v_iload_n X 1 rfl (gD D_X12_item_0 93 rfl) rfl ?_
    refine v_iload X 4 rfl (gD D_X12_item_0 94 rfl) ?_
    obtain ⟨a73, rfl, hw⟩ := hw
    obtain ⟨h74, hw⟩ := hw
    refine v_iast X 0 rfl (by decide) (Or.inl rfl) h74 (gD D_X12_item_0 95 rfl) (fun s75 es75 => ?_)
    replace hw := hw s75 es75
    refine v_aload_n X 0 rfl (gD D_X12_item_0 96 rfl) rfl ?_
    refine v_getR X RX12 TX12 65 13 12 (by decide) rfl gin12 12 1212 RX12 (Or.inl rfl) 3 21 rfl rfl rfl (by decide) lk_fRX12_34 (gD D_X12_item_0 97 rfl) (fun o76 eo76 => ?_)
    replace hw := hw o76 eo76
    refine v_iload_n X 1 rfl (gD D_X12_item_0 98 rfl) rfl ?_
    refine v_iload X 5 rfl (gD D_X12_item_0 99 rfl) ?_
    obtain ⟨a77, rfl, hw⟩ := hw
    obtain ⟨h78, hw⟩ := hw
    refine v_iast X 0 rfl (by decide) (Or.inl rfl) h78 (gD D_X12_item_1 0 rfl) (fun s79 es79 => ?_)
    replace hw := hw s79 es79
    refine v_aload_n X 0 rfl (gD D_X12_item_1 1 rfl) rfl ?_
    refine v_getR X RX12 TX12 65 13 12 (by decide) rfl gin12 13 1213 RX12 (Or.inl rfl) 4 21 rfl rfl rfl (by decide) lk_fRX12_37 (gD D_X12_item_1 2 rfl) (fun o80 eo80 => ?_)
    replace hw := hw o80 eo80
    refine v_iload_n X 1 rfl (gD D_X12_item_1 3 rfl) rfl ?_
    refine v_iload X 6 rfl (gD D_X12_item_1 4 rfl) ?_
    obtain ⟨a81, rfl, hw⟩ := hw
    obtain ⟨h82, hw⟩ := hw
    refine v_iast X 0 rfl (by decide) (Or.inl rfl) h82 (gD D_X12_item_1 5 rfl) (fun s83 es83 => ?_)
    replace hw := hw s83 es83
    exact v_vret X hr hw (gD D_X12_item_1 6 rfl)
set_option maxRecDepth 100000 in
set_option maxHeartbeats 4000000 in
theorem t_X12_item_76 {p : Program} {l : Launch} {e : Env} {s : State} {m : MethodId} {args : Array Value} {below : List Frame} {meth : Method} {c : Code} {G : GX} {σ0 : St} {mc ms : Nat} {Q : St → Prop} (X : VC p l (rmD 2 mc ms) s m args meth c G 2 mc ms 11 RX12 cX12_item) (hr : meth.sig.returnType = none) (hin : meth.name = yX12_item.name) (htr : l.stackTraces = false) : ∀ (f : Nat) (a0 : Nat) (x1 : Int32) (x2 : Int32) (x3 : Int32) (x4 : Int32) (x5 : Int32) (x6 : Int32) (x7 : Int32) (x8 : Int32) (x9 : Int32) (x10 : Int32) (σ : St), w_X12_item_76 Q  f a0 x1 x2 x3 x4 x5 x6 x7 x8 x9 x10 σ → V p l e (rmD 2 mc ms) s m args below meth c (MQ below (va_Qv Q (gB G 2 σ0) (GA G)) args s mc ms (GA G)) G 2 σ0 mc ms 11 σ 0 0 [(some a0, 13)] 76 [(0, va_rf (some a0)), (1, .int x1), (2, .int x2), (3, .int x3), (4, .int x4), (5, .int x5), (6, .int x6), (7, .int x7), (8, .int x8), (9, .int x9), (10, .int x10)] [] := by
  intro f
  induction f with
  | zero => intro a0 x1 x2 x3 x4 x5 x6 x7 x8 x9 x10 σ hw; exact hw.elim
  | succ f ih =>
    intro a0 x1 x2 x3 x4 x5 x6 x7 x8 x9 x10 σ hw
    unfold w_X12_item_76 at hw
    refine v_iload X 10 rfl (gD D_X12_item_0 38 rfl) ?_
    refine v_bipush X 18 (gD D_X12_item_0 39 rfl) (by decide) ?_
    refine v_icmp_ge X 132 (gD D_X12_item_0 40 rfl) (by decide) (fun c57 => ?_) (fun c57 => ?_)
    · replace hw := hw.1 c57
      refine v_aload_n X 0 rfl (gD D_X12_item_0 65 rfl) rfl ?_
      refine v_iload X 7 rfl (gD D_X12_item_0 66 rfl) ?_
      refine v_if_ne X 142 (gD D_X12_item_0 67 rfl) (by decide) (fun c58 => ?_) (fun c58 => ?_)
      · replace hw := hw.1 c58
        refine v_iload X 8 rfl (gD D_X12_item_0 70 rfl) ?_
        refine v_if_ne X 151 (gD D_X12_item_0 71 rfl) (by decide) (fun c59 => ?_) (fun c59 => ?_)
        · replace hw := hw.1 c59
          refine v_iload X 9 rfl (gD D_X12_item_0 74 rfl) ?_
          refine v_if_eq X 160 (gD D_X12_item_0 75 rfl) (by decide) (fun c60 => ?_) (fun c60 => ?_)
          · replace hw := hw.1 c60
            refine v_iconst X 0 (gD D_X12_item_0 78 rfl) (by decide) ?_
            exact v_sub [0, 0] [0, 1, 2, 3, 4, 5, 6] rfl rfl (t_X12_item_161 X hr hin htr  a0 x1 x2 x3 x4 x5 x6 a0 0 σ hw)
          · replace hw := hw.2 c60
            refine v_iconst X 3 (gD D_X12_item_0 76 rfl) (by decide) ?_
            refine v_goto X 161 (gD D_X12_item_0 77 rfl) (by decide) ?_
            exact v_sub [0, 0] [0, 1, 2, 3, 4, 5, 6] rfl rfl (t_X12_item_161 X hr hin htr  a0 x1 x2 x3 x4 x5 x6 a0 3 σ hw)
        · replace hw := hw.2 c59
          refine v_iconst X 2 (gD D_X12_item_0 72 rfl) (by decide) ?_
          refine v_goto X 161 (gD D_X12_item_0 73 rfl) (by decide) ?_
          exact v_sub [0, 0] [0, 1, 2, 3, 4, 5, 6] rfl rfl (t_X12_item_161 X hr hin htr  a0 x1 x2 x3 x4 x5 x6 a0 2 σ hw)
      · replace hw := hw.2 c58
        refine v_iconst X 1 (gD D_X12_item_0 68 rfl) (by decide) ?_
        refine v_goto X 161 (gD D_X12_item_0 69 rfl) (by decide) ?_
        exact v_sub [0, 0] [0, 1, 2, 3, 4, 5, 6] rfl rfl (t_X12_item_161 X hr hin htr  a0 x1 x2 x3 x4 x5 x6 a0 1 σ hw)
    · replace hw := hw.2 c57
      refine v_iload X 9 rfl (gD D_X12_item_0 41 rfl) ?_
      refine v_if_ne X 119 (gD D_X12_item_0 42 rfl) (by decide) (fun c84 => ?_) (fun c84 => ?_)
      · replace hw := hw.1 c84
        refine v_iconst X 1 (gD D_X12_item_0 59 rfl) (by decide) ?_
        refine v_goto X 124 (gD D_X12_item_0 60 rfl) (by decide) ?_
        refine v_istore X [(9, .int 1), (0, va_rf (some a0)), (1, .int x1), (2, .int x2), (3, .int x3), (4, .int x4), (5, .int x5), (6, .int x6), (7, .int x7), (8, .int x8), (10, .int x10)] (gD D_X12_item_0 62 rfl) (by decide) rfl ?_
        refine v_iinc X (x10 + 1) 10 rfl [(10, .int (x10 + 1)), (9, .int 1), (0, va_rf (some a0)), (1, .int x1), (2, .int x2), (3, .int x3), (4, .int x4), (5, .int x5), (6, .int x6), (7, .int x7), (8, .int x8)] (gD D_X12_item_0 63 rfl) rfl (by decide) rfl ?_
        refine v_goto X 76 (gD D_X12_item_0 64 rfl) (by decide) ?_
        exact v_sub [0] [2, 3, 4, 5, 6, 7, 8, 9, 10, 1, 0] rfl rfl (ih a0 x1 x2 x3 x4 x5 x6 x7 x8 1 (x10 + 1) σ hw)
      · replace hw := hw.2 c84
        refine v_aload_n X 0 rfl (gD D_X12_item_0 43 rfl) rfl ?_
        refine v_getR X RX12 TX12 65 13 12 (by decide) rfl gin12 6 1206 RX12 (Or.inl rfl) 0 21 rfl rfl rfl (by decide) lk_fRX12_16 (gD D_X12_item_0 44 rfl) (fun o85 eo85 => ?_)
        replace hw := hw o85 eo85
        refine v_iload X 10 rfl (gD D_X12_item_0 45 rfl) ?_
        obtain ⟨a86, rfl, hw⟩ := hw
        obtain ⟨h87, hw⟩ := hw
        refine v_iald X 0 rfl (by decide) h87 (gD D_X12_item_0 46 rfl) ?_
        refine v_iload_n X 1 rfl (gD D_X12_item_0 47 rfl) rfl ?_
        refine v_icmp_eq X 119 (gD D_X12_item_0 48 rfl) (by decide) (fun c88 => ?_) (fun c88 => ?_)
        · replace hw := hw.1 c88
          refine v_iconst X 1 (gD D_X12_item_0 59 rfl) (by decide) ?_
          refine v_goto X 124 (gD D_X12_item_0 60 rfl) (by decide) ?_
          refine v_istore X [(9, .int 1), (0, va_rf (some a0)), (1, .int x1), (2, .int x2), (3, .int x3), (4, .int x4), (5, .int x5), (6, .int x6), (7, .int x7), (8, .int x8), (10, .int x10)] (gD D_X12_item_0 62 rfl) (by decide) rfl ?_
          refine v_iinc X (x10 + 1) 10 rfl [(10, .int (x10 + 1)), (9, .int 1), (0, va_rf (some a0)), (1, .int x1), (2, .int x2), (3, .int x3), (4, .int x4), (5, .int x5), (6, .int x6), (7, .int x7), (8, .int x8)] (gD D_X12_item_0 63 rfl) rfl (by decide) rfl ?_
          refine v_goto X 76 (gD D_X12_item_0 64 rfl) (by decide) ?_
          exact v_sub [1] [2, 3, 4, 5, 6, 7, 8, 9, 10, 1, 0] rfl rfl (ih a0 x1 x2 x3 x4 x5 x6 x7 x8 1 (x10 + 1) σ hw)
        · replace hw := hw.2 c88
          refine v_iload X 10 rfl (gD D_X12_item_0 49 rfl) ?_
          refine v_aload_n X 0 rfl (gD D_X12_item_0 50 rfl) rfl ?_
          refine v_getI X RX12 TX12 65 13 12 (by decide) rfl gin12 15 1215 RX12 (Or.inl rfl) 1 rfl rfl (by decide) lk_fRX12_187 (gD D_X12_item_0 51 rfl) ?_
          refine v_icmp_ge X 123 (gD D_X12_item_0 52 rfl) (by decide) (fun c89 => ?_) (fun c89 => ?_)
          · replace hw := hw.1 c89
            refine v_iconst X 0 (gD D_X12_item_0 61 rfl) (by decide) ?_
            refine v_istore X [(9, .int 0), (0, va_rf (some a0)), (1, .int x1), (2, .int x2), (3, .int x3), (4, .int x4), (5, .int x5), (6, .int x6), (7, .int x7), (8, .int x8), (10, .int x10)] (gD D_X12_item_0 62 rfl) (by decide) rfl ?_
            refine v_iinc X (x10 + 1) 10 rfl [(10, .int (x10 + 1)), (9, .int 0), (0, va_rf (some a0)), (1, .int x1), (2, .int x2), (3, .int x3), (4, .int x4), (5, .int x5), (6, .int x6), (7, .int x7), (8, .int x8)] (gD D_X12_item_0 63 rfl) rfl (by decide) rfl ?_
            refine v_goto X 76 (gD D_X12_item_0 64 rfl) (by decide) ?_
            exact v_sub [1] [2, 3, 4, 5, 6, 7, 8, 9, 10, 1, 0] rfl rfl (ih a0 x1 x2 x3 x4 x5 x6 x7 x8 0 (x10 + 1) σ hw)
          · replace hw := hw.2 c89
            refine v_aload_n X 0 rfl (gD D_X12_item_0 53 rfl) rfl ?_
            refine v_getR X RX12 TX12 65 13 12 (by decide) rfl gin12 16 1216 RX12 (Or.inl rfl) 1 21 rfl rfl rfl (by decide) lk_fRX12_44 (gD D_X12_item_0 54 rfl) (fun o90 eo90 => ?_)
            replace hw := hw o90 eo90
            refine v_iload X 10 rfl (gD D_X12_item_0 55 rfl) ?_
            obtain ⟨a91, rfl, hw⟩ := hw
            obtain ⟨h92, hw⟩ := hw
            refine v_iald X 0 rfl (by decide) h92 (gD D_X12_item_0 56 rfl) ?_
            refine v_iload_n X 1 rfl (gD D_X12_item_0 57 rfl) rfl ?_
            refine v_icmp_ne X 123 (gD D_X12_item_0 58 rfl) (by decide) (fun c93 => ?_) (fun c93 => ?_)
            · replace hw := hw.1 c93
              refine v_iconst X 0 (gD D_X12_item_0 61 rfl) (by decide) ?_
              refine v_istore X [(9, .int 0), (0, va_rf (some a0)), (1, .int x1), (2, .int x2), (3, .int x3), (4, .int x4), (5, .int x5), (6, .int x6), (7, .int x7), (8, .int x8), (10, .int x10)] (gD D_X12_item_0 62 rfl) (by decide) rfl ?_
              refine v_iinc X (x10 + 1) 10 rfl [(10, .int (x10 + 1)), (9, .int 0), (0, va_rf (some a0)), (1, .int x1), (2, .int x2), (3, .int x3), (4, .int x4), (5, .int x5), (6, .int x6), (7, .int x7), (8, .int x8)] (gD D_X12_item_0 63 rfl) rfl (by decide) rfl ?_
              refine v_goto X 76 (gD D_X12_item_0 64 rfl) (by decide) ?_
              exact v_sub [2] [2, 3, 4, 5, 6, 7, 8, 9, 10, 1, 0] rfl rfl (ih a0 x1 x2 x3 x4 x5 x6 x7 x8 0 (x10 + 1) σ hw)
            · replace hw := hw.2 c93
              refine v_iconst X 1 (gD D_X12_item_0 59 rfl) (by decide) ?_
              refine v_goto X 124 (gD D_X12_item_0 60 rfl) (by decide) ?_
              refine v_istore X [(9, .int 1), (0, va_rf (some a0)), (1, .int x1), (2, .int x2), (3, .int x3), (4, .int x4), (5, .int x5), (6, .int x6), (7, .int x7), (8, .int x8), (10, .int x10)] (gD D_X12_item_0 62 rfl) (by decide) rfl ?_
              refine v_iinc X (x10 + 1) 10 rfl [(10, .int (x10 + 1)), (9, .int 1), (0, va_rf (some a0)), (1, .int x1), (2, .int x2), (3, .int x3), (4, .int x4), (5, .int x5), (6, .int x6), (7, .int x7), (8, .int x8)] (gD D_X12_item_0 63 rfl) rfl (by decide) rfl ?_
              refine v_goto X 76 (gD D_X12_item_0 64 rfl) (by decide) ?_
              exact v_sub [2] [2, 3, 4, 5, 6, 7, 8, 9, 10, 1, 0] rfl rfl (ih a0 x1 x2 x3 x4 x5 x6 x7 x8 1 (x10 + 1) σ hw)
set_option maxRecDepth 100000 in
set_option maxHeartbeats 4000000 in
theorem t_X12_item_67 {p : Program} {l : Launch} {e : Env} {s : State} {m : MethodId} {args : Array Value} {below : List Frame} {meth : Method} {c : Code} {G : GX} {σ0 : St} {mc ms : Nat} {Q : St → Prop} (X : VC p l (rmD 2 mc ms) s m args meth c G 2 mc ms 11 RX12 cX12_item) (hr : meth.sig.returnType = none) (hin : meth.name = yX12_item.name) (htr : l.stackTraces = false) : ∀ (a0 : Nat) (x1 : Int32) (x2 : Int32) (x3 : Int32) (x4 : Int32) (x5 : Int32) (x6 : Int32) (x7 : Int32) (σ : St), w_X12_item_67 Q  a0 x1 x2 x3 x4 x5 x6 x7 σ → V p l e (rmD 2 mc ms) s m args below meth c (MQ below (va_Qv Q (gB G 2 σ0) (GA G)) args s mc ms (GA G)) G 2 σ0 mc ms 11 σ 0 0 [(some a0, 13)] 67 [(0, va_rf (some a0)), (1, .int x1), (2, .int x2), (3, .int x3), (4, .int x4), (5, .int x5), (6, .int x6), (7, .int x7)] [] := by
  intro a0 x1 x2 x3 x4 x5 x6 x7 σ hw
  unfold w_X12_item_67 at hw
  refine v_iconst X 0 (gD D_X12_item_0 32 rfl) (by decide) ?_
  refine v_istore X [(8, .int 0), (0, va_rf (some a0)), (1, .int x1), (2, .int x2), (3, .int x3), (4, .int x4), (5, .int x5), (6, .int x6), (7, .int x7)] (gD D_X12_item_0 33 rfl) (by decide) rfl ?_
  refine v_iconst X 0 (gD D_X12_item_0 34 rfl) (by decide) ?_
  refine v_istore X [(9, .int 0), (8, .int 0), (0, va_rf (some a0)), (1, .int x1), (2, .int x2), (3, .int x3), (4, .int x4), (5, .int x5), (6, .int x6), (7, .int x7)] (gD D_X12_item_0 35 rfl) (by decide) rfl ?_
  refine v_iconst X 0 (gD D_X12_item_0 36 rfl) (by decide) ?_
  refine v_istore X [(10, .int 0), (9, .int 0), (8, .int 0), (0, va_rf (some a0)), (1, .int x1), (2, .int x2), (3, .int x3), (4, .int x4), (5, .int x5), (6, .int x6), (7, .int x7)] (gD D_X12_item_0 37 rfl) (by decide) rfl ?_
  obtain ⟨f94, hw⟩ := hw
  exact v_sub [0] [3, 4, 5, 6, 7, 8, 9, 10, 2, 1, 0] rfl rfl (t_X12_item_76 X hr hin htr  f94 a0 x1 x2 x3 x4 x5 x6 x7 0 0 0 σ hw)
set_option maxRecDepth 100000 in
set_option maxHeartbeats 4000000 in
theorem t_X12_item_20 {p : Program} {l : Launch} {e : Env} {s : State} {m : MethodId} {args : Array Value} {below : List Frame} {meth : Method} {c : Code} {G : GX} {σ0 : St} {mc ms : Nat} {Q : St → Prop} (X : VC p l (rmD 2 mc ms) s m args meth c G 2 mc ms 11 RX12 cX12_item) (hr : meth.sig.returnType = none) (hin : meth.name = yX12_item.name) (htr : l.stackTraces = false) : ∀ (a0 : Nat) (x1 : Int32) (x2 : Int32) (x3 : Int32) (x4 : Int32) (x5 : Int32) (x6 : Int32) (xs0 : Int32) (σ : St), w_X12_item_20 Q  a0 x1 x2 x3 x4 x5 x6 xs0 σ → V p l e (rmD 2 mc ms) s m args below meth c (MQ below (va_Qv Q (gB G 2 σ0) (GA G)) args s mc ms (GA G)) G 2 σ0 mc ms 11 σ 0 0 [(some a0, 13)] 20 [(0, va_rf (some a0)), (1, .int x1), (2, .int x2), (3, .int x3), (4, .int x4), (5, .int x5), (6, .int x6)] [.int xs0] := by
  intro a0 x1 x2 x3 x4 x5 x6 xs0 σ hw
  unfold w_X12_item_20 at hw
  refine v_istore X [(7, .int xs0), (0, va_rf (some a0)), (1, .int x1), (2, .int x2), (3, .int x3), (4, .int x4), (5, .int x5), (6, .int x6)] (gD D_X12_item_0 9 rfl) (by decide) rfl ?_
  refine v_iload_n X 3 rfl (gD D_X12_item_0 10 rfl) rfl ?_
  refine v_iconst X 0 (gD D_X12_item_0 11 rfl) (by decide) ?_
  refine v_iconst X 2 (gD D_X12_item_0 12 rfl) (by decide) ?_
  refine v_callSi X (As := [.int x2, .int 0, .int 2]) (rest := []) (nA := 3) 0 0 0 0 (fun ht => c_X12_isIn htr (ht.sub [] rfl) hw) (Or.inl rfl) lk_sRX12_183 (by decide +kernel) rfl rfl (by decide) (by decide) (by decide) rfl rfl (gD D_X12_item_0 13 rfl) (fun x54 s55 hq _ _ => ?_)
  replace hw := hq
  clear hq
  refine v_if_eq X 67 (gD D_X12_item_0 14 rfl) (by decide) (fun c56 => ?_) (fun c56 => ?_)
  · replace hw := hw.1 c56
    exact v_sub [0] [1, 2, 3, 4, 5, 6, 7, 0] rfl rfl (t_X12_item_67 X hr hin htr  a0 x1 x2 x3 x4 x5 x6 xs0 s55 hw)
  · replace hw := hw.2 c56
    refine v_iload_n X 4 rfl (gD D_X12_item_0 15 rfl) rfl ?_
    refine v_iconst X 1 (gD D_X12_item_0 16 rfl) (by decide) ?_
    refine v_bipush X 9 (gD D_X12_item_0 17 rfl) (by decide) ?_
    refine v_callSi X (As := [.int x3, .int 1, .int 9]) (rest := []) (nA := 3) 0 0 0 0 (fun ht => c_X12_isIn htr (ht.sub [] rfl) hw) (Or.inl rfl) lk_sRX12_183 (by decide +kernel) rfl rfl (by decide) (by decide) (by decide) rfl rfl (gD D_X12_item_0 18 rfl) (fun x95 s96 hq _ _ => ?_)
    replace hw := hq
    clear hq
    refine v_if_eq X 67 (gD D_X12_item_0 19 rfl) (by decide) (fun c97 => ?_) (fun c97 => ?_)
    · replace hw := hw.1 c97
      exact v_sub [0] [1, 2, 3, 4, 5, 6, 7, 0] rfl rfl (t_X12_item_67 X hr hin htr  a0 x1 x2 x3 x4 x5 x6 xs0 s96 hw)
    · replace hw := hw.2 c97
      refine v_iload X 5 rfl (gD D_X12_item_0 20 rfl) ?_
      refine v_iconst X 1 (gD D_X12_item_0 21 rfl) (by decide) ?_
      refine v_bipush X 20 (gD D_X12_item_0 22 rfl) (by decide) ?_
      refine v_callSi X (As := [.int x4, .int 1, .int 20]) (rest := []) (nA := 3) 0 0 0 0 (fun ht => c_X12_isIn htr (ht.sub [] rfl) hw) (Or.inl rfl) lk_sRX12_183 (by decide +kernel) rfl rfl (by decide) (by decide) (by decide) rfl rfl (gD D_X12_item_0 23 rfl) (fun x98 s99 hq _ _ => ?_)
      replace hw := hq
      clear hq
      refine v_if_eq X 67 (gD D_X12_item_0 24 rfl) (by decide) (fun c100 => ?_) (fun c100 => ?_)
      · replace hw := hw.1 c100
        exact v_sub [0] [1, 2, 3, 4, 5, 6, 7, 0] rfl rfl (t_X12_item_67 X hr hin htr  a0 x1 x2 x3 x4 x5 x6 xs0 s99 hw)
      · replace hw := hw.2 c100
        refine v_iload X 7 rfl (gD D_X12_item_0 25 rfl) ?_
        refine v_iconst X 1 (gD D_X12_item_0 26 rfl) (by decide) ?_
        refine v_bipush X 12 (gD D_X12_item_0 27 rfl) (by decide) ?_
        refine v_callSi X (As := [.int x6, .int 1, .int 12]) (rest := []) (nA := 3) 0 0 0 0 (fun ht => c_X12_isIn htr (ht.sub [] rfl) hw) (Or.inl rfl) lk_sRX12_183 (by decide +kernel) rfl rfl (by decide) (by decide) (by decide) rfl rfl (gD D_X12_item_0 28 rfl) (fun x101 s102 hq _ _ => ?_)
        replace hw := hq
        clear hq
        refine v_if_eq X 67 (gD D_X12_item_0 29 rfl) (by decide) (fun c103 => ?_) (fun c103 => ?_)
        · replace hw := hw.1 c103
          exact v_sub [0] [1, 2, 3, 4, 5, 6, 7, 0] rfl rfl (t_X12_item_67 X hr hin htr  a0 x1 x2 x3 x4 x5 x6 xs0 s102 hw)
        · replace hw := hw.2 c103
          refine v_iconst X 1 (gD D_X12_item_0 30 rfl) (by decide) ?_
          refine v_goto X 68 (gD D_X12_item_0 31 rfl) (by decide) ?_
          refine v_istore X [(8, .int 1), (7, .int xs0), (0, va_rf (some a0)), (1, .int x1), (2, .int x2), (3, .int x3), (4, .int x4), (5, .int x5), (6, .int x6)] (gD D_X12_item_0 33 rfl) (by decide) rfl ?_
          refine v_iconst X 0 (gD D_X12_item_0 34 rfl) (by decide) ?_
          refine v_istore X [(9, .int 0), (8, .int 1), (7, .int xs0), (0, va_rf (some a0)), (1, .int x1), (2, .int x2), (3, .int x3), (4, .int x4), (5, .int x5), (6, .int x6)] (gD D_X12_item_0 35 rfl) (by decide) rfl ?_
          refine v_iconst X 0 (gD D_X12_item_0 36 rfl) (by decide) ?_
          refine v_istore X [(10, .int 0), (9, .int 0), (8, .int 1), (7, .int xs0), (0, va_rf (some a0)), (1, .int x1), (2, .int x2), (3, .int x3), (4, .int x4), (5, .int x5), (6, .int x6)] (gD D_X12_item_0 37 rfl) (by decide) rfl ?_
          obtain ⟨f104, hw⟩ := hw
          exact v_sub [0] [4, 5, 6, 7, 8, 9, 10, 3, 2, 1, 0] rfl rfl (t_X12_item_76 X hr hin htr  f104 a0 x1 x2 x3 x4 x5 x6 xs0 1 0 0 s102 hw)
set_option maxRecDepth 100000 in
set_option maxHeartbeats 4000000 in
theorem t_X12_item_19 {p : Program} {l : Launch} {e : Env} {s : State} {m : MethodId} {args : Array Value} {below : List Frame} {meth : Method} {c : Code} {G : GX} {σ0 : St} {mc ms : Nat} {Q : St → Prop} (X : VC p l (rmD 2 mc ms) s m args meth c G 2 mc ms 11 RX12 cX12_item) (hr : meth.sig.returnType = none) (hin : meth.name = yX12_item.name) (htr : l.stackTraces = false) : ∀ (a0 : Nat) (x1 : Int32) (x2 : Int32) (x3 : Int32) (x4 : Int32) (x5 : Int32) (x6 : Int32) (σ : St), w_X12_item_19 Q  a0 x1 x2 x3 x4 x5 x6 σ → V p l e (rmD 2 mc ms) s m args below meth c (MQ below (va_Qv Q (gB G 2 σ0) (GA G)) args s mc ms (GA G)) G 2 σ0 mc ms 11 σ 0 0 [(some a0, 13)] 19 [(0, va_rf (some a0)), (1, .int x1), (2, .int x2), (3, .int x3), (4, .int x4), (5, .int x5), (6, .int x6)] [] := by
  intro a0 x1 x2 x3 x4 x5 x6 σ hw
  unfold w_X12_item_19 at hw
  refine v_iconst X 0 (gD D_X12_item_0 8 rfl) (by decide) ?_
  exact v_sub [0] [0, 1, 2, 3, 4, 5, 6] rfl rfl (t_X12_item_20 X hr hin htr  a0 x1 x2 x3 x4 x5 x6 0 σ hw)
set_option maxRecDepth 100000 in
set_option maxHeartbeats 4000000 in
theorem c_X12_item {l : Launch} {G : GX} (htr : l.stackTraces = false) {σ : St} {a0 : Nat} {x1 : Int32} {x2 : Int32} {x3 : Int32} {x4 : Int32} {x5 : Int32} {x6 : Int32} {Q : St → Prop} (ht : tvOk σ [(some a0, 13)]) (hw : w_X12_item a0 x1 x2 x3 x4 x5 x6 σ Q) : MV l G 2 σ yX12_item cX12_item 11 2 0 0 [va_rf (some a0), .int x1, .int x2, .int x3, .int x4, .int x5, .int x6] Q := by
  unfold w_X12_item at hw
  refine m_start RX12 (by decide) htr ht (Nat.le_of_ble_eq_true rfl) rfl (lv := [(0, va_rf (some a0)), (1, .int x1), (2, .int x2), (3, .int x3), (4, .int x4), (5, .int x5), (6, .int x6)]) (d := 2) (fun p e s m args below meth c X hr hin => ?_)
  refine v_iload_n X 1 rfl (gD D_X12_item_0 0 rfl) rfl ?_
  refine v_callSi X (As := [.int x1]) (rest := []) (nA := 1) 0 0 0 0 (fun ht => c_X12_isItem htr (ht.sub [] rfl) hw) (Or.inl rfl) lk_sRX12_226 (by decide +kernel) rfl rfl (by decide) (by decide) (by decide) rfl rfl (gD D_X12_item_0 1 rfl) (fun x51 s52 hq _ _ => ?_)
  replace hw := hq
  clear hq
  refine v_if_eq X 19 (gD D_X12_item_0 2 rfl) (by decide) (fun c53 => ?_) (fun c53 => ?_)
  · replace hw := hw.1 c53
    exact v_sub [0] [0, 1, 2, 3, 4, 5, 6] rfl rfl (t_X12_item_19 X hr hin htr  a0 x1 x2 x3 x4 x5 x6 s52 hw)
  · replace hw := hw.2 c53
    refine v_iload X 5 rfl (gD D_X12_item_0 3 rfl) ?_
    refine v_callSi X (As := [.int x5]) (rest := []) (nA := 1) 0 0 0 0 (fun ht => c_X12_isGroup htr (ht.sub [] rfl) hw) (Or.inl rfl) lk_sRX12_229 (by decide +kernel) rfl rfl (by decide) (by decide) (by decide) rfl rfl (gD D_X12_item_0 4 rfl) (fun x105 s106 hq _ _ => ?_)
    replace hw := hq
    clear hq
    refine v_if_eq X 19 (gD D_X12_item_0 5 rfl) (by decide) (fun c107 => ?_) (fun c107 => ?_)
    · replace hw := hw.1 c107
      exact v_sub [0] [0, 1, 2, 3, 4, 5, 6] rfl rfl (t_X12_item_19 X hr hin htr  a0 x1 x2 x3 x4 x5 x6 s106 hw)
    · replace hw := hw.2 c107
      refine v_iconst X 1 (gD D_X12_item_0 6 rfl) (by decide) ?_
      refine v_goto X 20 (gD D_X12_item_0 7 rfl) (by decide) ?_
      exact v_sub [0] [0, 1, 2, 3, 4, 5, 6] rfl rfl (t_X12_item_20 X hr hin htr  a0 x1 x2 x3 x4 x5 x6 1 s106 hw)
set_option maxRecDepth 100000 in
set_option maxHeartbeats 4000000 in
theorem t_X12_judge_77 {p : Program} {l : Launch} {e : Env} {s : State} {m : MethodId} {args : Array Value} {below : List Frame} {meth : Method} {c : Code} {G : GX} {σ0 : St} {mc ms : Nat} {Q : Int32 → St → Prop} (X : VC p l (rmD 2 mc ms) s m args meth c G 2 mc ms 5 RX12 cX12_judge) (hr : meth.sig.returnType = (some .int)) (hin : meth.name = yX12_judge.name) (htr : l.stackTraces = false) : ∀ (a0 : Nat) (x1 : Int32) (as0 : Nat) (xs1 : Int32) (xs2 : Int32) (xs3 : Int32) (σ : St), w_X12_judge_77 Q  a0 x1 as0 xs1 xs2 xs3 σ → V p l e (rmD 2 mc ms) s m args below meth c (MQ below (va_Qi Q (gB G 2 σ0) (GA G)) args s mc ms (GA G)) G 2 σ0 mc ms 5 σ 0 0 [(some a0, 13), (some as0, 13)] 77 [(0, va_rf (some a0)), (1, .int x1)] [.int xs3, .int xs2, .int xs1, va_rf (some as0)] := by
  intro a0 x1 as0 xs1 xs2 xs3 σ hw
  unfold w_X12_judge_77 at hw
  refine v_callVv X (As := [.int xs1, .int xs2, .int xs3]) (rest := []) (nA := 3) 0 0 0 0 (fun ht => c_X12_books htr (ht.sub [1] rfl) hw) (Or.inl rfl) 1 (κ := 13) rfl (by decide) (rfl : gCl[12]? = some (RX12, TX12, 65)) lk_vRX12_250 (by decide +kernel) rfl rfl (by decide) (by decide) (by decide) rfl rfl (gD D_X12_judge_0 43 rfl) (fun s68 hq _ _ => ?_)
  replace hw := hq
  clear hq
  refine v_aload_n X 0 rfl (gD D_X12_judge_0 44 rfl) rfl ?_
  refine v_getR X RX12 TX12 65 13 12 (by decide) rfl gin12 19 1219 RX12 (Or.inl rfl) 0 21 rfl rfl rfl (by decide) lk_fRX12_53 (gD D_X12_judge_0 45 rfl) (fun o69 eo69 => ?_)
  replace hw := hw o69 eo69
  refine v_sipush X 228 (gD D_X12_judge_0 46 rfl) (by decide) ?_
  refine v_iload_n X 1 rfl (gD D_X12_judge_0 47 rfl) rfl ?_
  refine v_iadd X (gD D_X12_judge_0 48 rfl) ?_
  obtain ⟨a70, rfl, hw⟩ := hw
  obtain ⟨h71, hw⟩ := hw
  refine v_iald X 0 rfl (by decide) h71 (gD D_X12_judge_0 49 rfl) ?_
  exact v_iret X hr hw (gD D_X12_judge_0 50 rfl)
set_option maxRecDepth 100000 in
set_option maxHeartbeats 4000000 in
theorem t_X12_judge_47 {p : Program} {l : Launch} {e : Env} {s : State} {m : MethodId} {args : Array Value} {below : List Frame} {meth : Method} {c : Code} {G : GX} {σ0 : St} {mc ms : Nat} {Q : Int32 → St → Prop} (X : VC p l (rmD 2 mc ms) s m args meth c G 2 mc ms 5 RX12 cX12_judge) (hr : meth.sig.returnType = (some .int)) (hin : meth.name = yX12_judge.name) (htr : l.stackTraces = false) : ∀ (a0 : Nat) (x1 : Int32) (x2 : Int32) (x3 : Int32) (as0 : Nat) (xs1 : Int32) (σ : St), w_X12_judge_47 Q  a0 x1 x2 x3 as0 xs1 σ → V p l e (rmD 2 mc ms) s m args below meth c (MQ below (va_Qi Q (gB G 2 σ0) (GA G)) args s mc ms (GA G)) G 2 σ0 mc ms 5 σ 0 0 [(some a0, 13), (some as0, 13)] 47 [(0, va_rf (some a0)), (1, .int x1), (2, .int x2), (3, .int x3)] [.int xs1, va_rf (some as0)] := by
  intro a0 x1 x2 x3 as0 xs1 σ hw
  unfold w_X12_judge_47 at hw
  refine v_callVi X (As := [.int xs1]) (rest := []) (nA := 1) 0 0 0 0 (fun ht => c_X12_holds htr (ht.sub [1] rfl) hw) (Or.inl rfl) 1 (κ := 13) rfl (by decide) (rfl : gCl[12]? = some (RX12, TX12, 65)) lk_vRX12_223 (by decide +kernel) rfl rfl (by decide) (by decide) (by decide) rfl rfl (gD D_X12_judge_0 25 rfl) (fun x61 s62 hq _ _ => ?_)
  replace hw := hq
  clear hq
  refine v_if_ne X 55 (gD D_X12_judge_0 26 rfl) (by decide) (fun c63 => ?_) (fun c63 => ?_)
  · replace hw := hw.1 c63
    refine v_aload_n X 0 rfl (gD D_X12_judge_0 29 rfl) rfl ?_
    refine v_bipush X 19 (gD D_X12_judge_0 30 rfl) (by decide) ?_
    refine v_iload_n X 1 rfl (gD D_X12_judge_0 31 rfl) rfl ?_
    refine v_iload_n X 2 rfl (gD D_X12_judge_0 32 rfl) rfl ?_
    refine v_ineg X (gD D_X12_judge_0 33 rfl) ?_
    refine v_callVv X (As := [.int 19, .int x1, .int (-x2)]) (rest := []) (nA := 3) 0 0 0 0 (fun ht => c_X12_books htr (ht.sub [0] rfl) hw) (Or.inl rfl) 0 (κ := 13) rfl (by decide) (rfl : gCl[12]? = some (RX12, TX12, 65)) lk_vRX12_250 (by decide +kernel) rfl rfl (by decide) (by decide) (by decide) rfl rfl (gD D_X12_judge_0 34 rfl) (fun s65 hq _ _ => ?_)
    replace hw := hq
    clear hq
    refine v_aload_n X 0 rfl (gD D_X12_judge_0 35 rfl) rfl ?_
    refine v_bipush X 18 (gD D_X12_judge_0 36 rfl) (by decide) ?_
    refine v_iload_n X 1 rfl (gD D_X12_judge_0 37 rfl) rfl ?_
    refine v_iload_n X 3 rfl (gD D_X12_judge_0 38 rfl) rfl ?_
    refine v_if_eq X 76 (gD D_X12_judge_0 39 rfl) (by decide) (fun c66 => ?_) (fun c66 => ?_)
    · replace hw := hw.1 c66
      refine v_iconst X 0 (gD D_X12_judge_0 42 rfl) (by decide) ?_
      exact v_sub [0, 0] [0, 1] rfl rfl (t_X12_judge_77 X hr hin htr  a0 x1 a0 18 x1 0 s65 hw)
    · replace hw := hw.2 c66
      refine v_iload_n X 2 rfl (gD D_X12_judge_0 40 rfl) rfl ?_
      refine v_goto X 77 (gD D_X12_judge_0 41 rfl) (by decide) ?_
      exact v_sub [0, 0] [0, 1] rfl rfl (t_X12_judge_77 X hr hin htr  a0 x1 a0 18 x1 x2 s65 hw)
  · replace hw := hw.2 c63
    refine v_iconst X 0 (gD D_X12_judge_0 27 rfl) (by decide) ?_
    exact v_iret X hr hw (gD D_X12_judge_0 28 rfl)
set_option maxRecDepth 100000 in
set_option maxHeartbeats 4000000 in
theorem c_X12_judge {l : Launch} {G : GX} (htr : l.stackTraces = false) {σ : St} {a0 : Nat} {x1 : Int32} {x2 : Int32} {x3 : Int32} {Q : Int32 → St → Prop} (ht : tvOk σ [(some a0, 13)]) (hw : w_X12_judge a0 x1 x2 x3 σ Q) : MI l G 2 σ yX12_judge cX12_judge 5 (some .int) 2 0 0 [va_rf (some a0), .int x1, .int x2, .int x3] Q := by
  unfold w_X12_judge at hw
  refine m_start RX12 (by decide) htr ht (Nat.le_of_ble_eq_true rfl) rfl (lv := [(0, va_rf (some a0)), (1, .int x1), (2, .int x2), (3, .int x3)]) (d := 2) (fun p e s m args below meth c X hr hin => ?_)
  refine v_aload_n X 0 rfl (gD D_X12_judge_0 0 rfl) rfl ?_
  refine v_iload_n X 1 rfl (gD D_X12_judge_0 1 rfl) rfl ?_
  refine v_callVi X (As := [.int x1]) (rest := []) (nA := 1) 0 0 0 0 (fun ht => c_X12_isLot htr (ht.sub [0] rfl) hw) (Or.inl rfl) 0 (κ := 13) rfl (by decide) (rfl : gCl[12]? = some (RX12, TX12, 65)) lk_vRX12_232 (by decide +kernel) rfl rfl (by decide) (by decide) (by decide) rfl rfl (gD D_X12_judge_0 2 rfl) (fun x51 s52 hq _ _ => ?_)
  replace hw := hq
  clear hq
  refine v_istore X [(4, .int x51), (0, va_rf (some a0)), (1, .int x1), (2, .int x2), (3, .int x3)] (gD D_X12_judge_0 3 rfl) (by decide) rfl ?_
  refine v_aload_n X 1 rfl (gD D_X12_judge_0 4 rfl) rfl ?_
  refine v_iload X 0 rfl (gD D_X12_judge_0 5 rfl) ?_
  refine v_if_ne X 17 (gD D_X12_judge_0 6 rfl) (by decide) (fun c53 => ?_) (fun c53 => ?_)
  · replace hw := hw.1 c53
    refine v_iload_n X 3 rfl (gD D_X12_judge_0 9 rfl) rfl ?_
    refine v_callSi X (As := [.int x2]) (rest := [va_rf (some a0)]) (nA := 1) 0 0 0 0 (fun ht => c_X12_arePieces htr (ht.sub [] rfl) hw) (Or.inl rfl) lk_sRX12_244 (by decide +kernel) rfl rfl (by simp [rf_cat, ct_i]) (by decide) (by decide) rfl rfl (gD D_X12_judge_0 10 rfl) (fun x54 s55 hq _ _ => ?_)
    replace hw := hq
    clear hq
    refine v_if_ne X 28 (gD D_X12_judge_0 11 rfl) (by decide) (fun c56 => ?_) (fun c56 => ?_)
    · replace hw := hw.1 c56
      refine v_aload_n X 1 rfl (gD D_X12_judge_0 14 rfl) rfl ?_
      refine v_getR X RX12 TX12 65 13 12 (by decide) rfl gin12 19 1219 RX12 (Or.inl rfl) 0 21 rfl rfl rfl (by decide) lk_fRX12_53 (gD D_X12_judge_0 15 rfl) (fun o57 eo57 => ?_)
      replace hw := hw o57 eo57
      refine v_sipush X 228 (gD D_X12_judge_0 16 rfl) (by decide) ?_
      refine v_iload_n X 2 rfl (gD D_X12_judge_0 17 rfl) rfl ?_
      refine v_iadd X (gD D_X12_judge_0 18 rfl) ?_
      obtain ⟨a58, rfl, hw⟩ := hw
      obtain ⟨h59, hw⟩ := hw
      refine v_iald X 0 rfl (by decide) h59 (gD D_X12_judge_0 19 rfl) ?_
      refine v_iload_n X 3 rfl (gD D_X12_judge_0 20 rfl) rfl ?_
      refine v_icmp_ge X 46 (gD D_X12_judge_0 21 rfl) (by decide) (fun c60 => ?_) (fun c60 => ?_)
      · replace hw := hw.1 c60
        refine v_iconst X 0 (gD D_X12_judge_0 24 rfl) (by decide) ?_
        exact v_sub [1, 1] [1, 2, 3, 4] rfl rfl (t_X12_judge_47 X hr hin htr  a0 x1 x2 x3 a0 0 s55 hw)
      · replace hw := hw.2 c60
        refine v_iconst X 3 (gD D_X12_judge_0 22 rfl) (by decide) ?_
        refine v_goto X 47 (gD D_X12_judge_0 23 rfl) (by decide) ?_
        exact v_sub [1, 1] [1, 2, 3, 4] rfl rfl (t_X12_judge_47 X hr hin htr  a0 x1 x2 x3 a0 3 s55 hw)
    · replace hw := hw.2 c56
      refine v_iconst X 2 (gD D_X12_judge_0 12 rfl) (by decide) ?_
      refine v_goto X 47 (gD D_X12_judge_0 13 rfl) (by decide) ?_
      exact v_sub [0, 0] [1, 2, 3, 4] rfl rfl (t_X12_judge_47 X hr hin htr  a0 x1 x2 x3 a0 2 s55 hw)
  · replace hw := hw.2 c53
    refine v_iconst X 1 (gD D_X12_judge_0 7 rfl) (by decide) ?_
    refine v_goto X 47 (gD D_X12_judge_0 8 rfl) (by decide) ?_
    exact v_sub [0, 0] [1, 2, 3, 4] rfl rfl (t_X12_judge_47 X hr hin htr  a0 x1 x2 x3 a0 1 s52 hw)
set_option maxRecDepth 100000 in
set_option maxHeartbeats 4000000 in
theorem t_X12_lacks_40 {p : Program} {l : Launch} {e : Env} {s : State} {m : MethodId} {args : Array Value} {below : List Frame} {meth : Method} {c : Code} {G : GX} {σ0 : St} {mc ms : Nat} {Q : Int32 → St → Prop} (X : VC p l (rmD 2 mc ms) s m args meth c G 2 mc ms 4 RX12 cX12_lacks) (hr : meth.sig.returnType = (some .int)) (hin : meth.name = yX12_lacks.name) (htr : l.stackTraces = false) : ∀ (a0 : Nat) (x1 : Int32) (x2 : Int32) (as0 : Nat) (xs1 : Int32) (σ : St), w_X12_lacks_40 Q  a0 x1 x2 as0 xs1 σ → V p l e (rmD 2 mc ms) s m args below meth c (MQ below (va_Qi Q (gB G 2 σ0) (GA G)) args s mc ms (GA G)) G 2 σ0 mc ms 4 σ 0 0 [(some a0, 13), (some as0, 13)] 40 [(0, va_rf (some a0)), (1, .int x1), (2, .int x2)] [.int xs1, va_rf (some as0)] := by
  intro a0 x1 x2 as0 xs1 σ hw
  unfold w_X12_lacks_40 at hw
  refine v_callVi X (As := [.int xs1]) (rest := []) (nA := 1) 0 0 0 0 (fun ht => c_X12_holds htr (ht.sub [1] rfl) hw) (Or.inl rfl) 1 (κ := 13) rfl (by decide) (rfl : gCl[12]? = some (RX12, TX12, 65)) lk_vRX12_223 (by decide +kernel) rfl rfl (by decide) (by decide) (by decide) rfl rfl (gD D_X12_lacks_0 24 rfl) (fun x55 s56 hq _ _ => ?_)
  replace hw := hq
  clear hq
  refine v_if_eq X 58 (gD D_X12_lacks_0 25 rfl) (by decide) (fun c57 => ?_) (fun c57 => ?_)
  · replace hw := hw.1 c57
    refine v_iconst X 0 (gD D_X12_lacks_0 34 rfl) (by decide) ?_
    exact v_iret X hr hw (gD D_X12_lacks_0 35 rfl)
  · replace hw := hw.2 c57
    refine v_aload_n X 0 rfl (gD D_X12_lacks_0 26 rfl) rfl ?_
    refine v_iconst X 3 (gD D_X12_lacks_0 27 rfl) (by decide) ?_
    refine v_iload_n X 1 rfl (gD D_X12_lacks_0 28 rfl) rfl ?_
    refine v_imul X (gD D_X12_lacks_0 29 rfl) ?_
    refine v_iload_n X 2 rfl (gD D_X12_lacks_0 30 rfl) rfl ?_
    refine v_iadd X (gD D_X12_lacks_0 31 rfl) ?_
    refine v_callVi X (As := [.int ((3 * x1) + x2)]) (rest := []) (nA := 1) 0 0 0 0 (fun ht => c_X12_lacking htr (ht.sub [0] rfl) hw) (Or.inl rfl) 0 (κ := 13) rfl (by decide) (rfl : gCl[12]? = some (RX12, TX12, 65)) lk_vRX12_290 (by decide +kernel) rfl rfl (by decide) (by decide) (by decide) rfl rfl (gD D_X12_lacks_0 32 rfl) (fun x58 s59 hq _ _ => ?_)
    replace hw := hq
    clear hq
    refine v_goto X 59 (gD D_X12_lacks_0 33 rfl) (by decide) ?_
    exact v_iret X hr hw (gD D_X12_lacks_0 35 rfl)
set_option maxRecDepth 100000 in
set_option maxHeartbeats 4000000 in
theorem t_X12_lacks_29 {p : Program} {l : Launch} {e : Env} {s : State} {m : MethodId} {args : Array Value} {below : List Frame} {meth : Method} {c : Code} {G : GX} {σ0 : St} {mc ms : Nat} {Q : Int32 → St → Prop} (X : VC p l (rmD 2 mc ms) s m args meth c G 2 mc ms 4 RX12 cX12_lacks) (hr : meth.sig.returnType = (some .int)) (hin : meth.name = yX12_lacks.name) (htr : l.stackTraces = false) : ∀ (a0 : Nat) (x1 : Int32) (x2 : Int32) (xs0 : Int32) (σ : St), w_X12_lacks_29 Q  a0 x1 x2 xs0 σ → V p l e (rmD 2 mc ms) s m args below meth c (MQ below (va_Qi Q (gB G 2 σ0) (GA G)) args s mc ms (GA G)) G 2 σ0 mc ms 4 σ 0 0 [(some a0, 13)] 29 [(0, va_rf (some a0)), (1, .int x1), (2, .int x2)] [.int xs0] := by
  intro a0 x1 x2 xs0 σ hw
  unfold w_X12_lacks_29 at hw
  refine v_istore_n X [(3, .int xs0), (0, va_rf (some a0)), (1, .int x1), (2, .int x2)] (gD D_X12_lacks_0 17 rfl) rfl (by decide) rfl ?_
  refine v_aload_n X 1 rfl (gD D_X12_lacks_0 18 rfl) rfl ?_
  refine v_iload_n X 0 rfl (gD D_X12_lacks_0 19 rfl) rfl ?_
  refine v_if_eq X 39 (gD D_X12_lacks_0 20 rfl) (by decide) (fun c54 => ?_) (fun c54 => ?_)
  · replace hw := hw.1 c54
    refine v_iconst X 1 (gD D_X12_lacks_0 23 rfl) (by decide) ?_
    exact v_sub [0, 0] [1, 2, 3] rfl rfl (t_X12_lacks_40 X hr hin htr  a0 x1 x2 a0 1 σ hw)
  · replace hw := hw.2 c54
    refine v_iconst X 0 (gD D_X12_lacks_0 21 rfl) (by decide) ?_
    refine v_goto X 40 (gD D_X12_lacks_0 22 rfl) (by decide) ?_
    exact v_sub [0, 0] [1, 2, 3] rfl rfl (t_X12_lacks_40 X hr hin htr  a0 x1 x2 a0 0 σ hw)
set_option maxRecDepth 100000 in
set_option maxHeartbeats 4000000 in
theorem t_X12_lacks_28 {p : Program} {l : Launch} {e : Env} {s : State} {m : MethodId} {args : Array Value} {below : List Frame} {meth : Method} {c : Code} {G : GX} {σ0 : St} {mc ms : Nat} {Q : Int32 → St → Prop} (X : VC p l (rmD 2 mc ms) s m args meth c G 2 mc ms 4 RX12 cX12_lacks) (hr : meth.sig.returnType = (some .int)) (hin : meth.name = yX12_lacks.name) (htr : l.stackTraces = false) : ∀ (a0 : Nat) (x1 : Int32) (x2 : Int32) (σ : St), w_X12_lacks_28 Q  a0 x1 x2 σ → V p l e (rmD 2 mc ms) s m args below meth c (MQ below (va_Qi Q (gB G 2 σ0) (GA G)) args s mc ms (GA G)) G 2 σ0 mc ms 4 σ 0 0 [(some a0, 13)] 28 [(0, va_rf (some a0)), (1, .int x1), (2, .int x2)] [] := by
  intro a0 x1 x2 σ hw
  unfold w_X12_lacks_28 at hw
  refine v_iconst X 0 (gD D_X12_lacks_0 16 rfl) (by decide) ?_
  exact v_sub [0] [0, 1, 2] rfl rfl (t_X12_lacks_29 X hr hin htr  a0 x1 x2 0 σ hw)
set_option maxRecDepth 100000 in
set_option maxHeartbeats 4000000 in
theorem c_X12_lacks {l : Launch} {G : GX} (htr : l.stackTraces = false) {σ : St} {a0 : Nat} {x1 : Int32} {x2 : Int32} {Q : Int32 → St → Prop} (ht : tvOk σ [(some a0, 13)]) (hw : w_X12_lacks a0 x1 x2 σ Q) : MI l G 2 σ yX12_lacks cX12_lacks 4 (some .int) 2 0 0 [va_rf (some a0), .int x1, .int x2] Q := by
  unfold w_X12_lacks at hw
  refine m_start RX12 (by decide) htr ht (Nat.le_of_ble_eq_true rfl) rfl (lv := [(0, va_rf (some a0)), (1, .int x1), (2, .int x2)]) (d := 2) (fun p e s m args below meth c X hr hin => ?_)
  refine v_aload_n X 0 rfl (gD D_X12_lacks_0 0 rfl) rfl ?_
  refine v_iload_n X 1 rfl (gD D_X12_lacks_0 1 rfl) rfl ?_
  refine v_callVi X (As := [.int x1]) (rest := []) (nA := 1) 0 0 0 0 (fun ht => c_X12_isOrder htr (ht.sub [0] rfl) hw) (Or.inl rfl) 0 (κ := 13) rfl (by decide) (rfl : gCl[12]? = some (RX12, TX12, 65)) lk_vRX12_287 (by decide +kernel) rfl rfl (by decide) (by decide) (by decide) rfl rfl (gD D_X12_lacks_0 2 rfl) (fun x51 s52 hq _ _ => ?_)
  replace hw := hq
  clear hq
  refine v_if_eq X 28 (gD D_X12_lacks_0 3 rfl) (by decide) (fun c53 => ?_) (fun c53 => ?_)
  · replace hw := hw.1 c53
    exact v_sub [0] [0, 1, 2] rfl rfl (t_X12_lacks_28 X hr hin htr  a0 x1 x2 s52 hw)
  · replace hw := hw.2 c53
    refine v_iload_n X 2 rfl (gD D_X12_lacks_0 4 rfl) rfl ?_
    refine v_iconst X 0 (gD D_X12_lacks_0 5 rfl) (by decide) ?_
    refine v_aload_n X 0 rfl (gD D_X12_lacks_0 6 rfl) rfl ?_
    refine v_getR X RX12 TX12 65 13 12 (by decide) rfl gin12 31 1231 RX12 (Or.inl rfl) 0 21 rfl rfl rfl (by decide) lk_fRX12_83 (gD D_X12_lacks_0 7 rfl) (fun o60 eo60 => ?_)
    replace hw := hw o60 eo60
    refine v_iload_n X 1 rfl (gD D_X12_lacks_0 8 rfl) rfl ?_
    obtain ⟨a61, rfl, hw⟩ := hw
    obtain ⟨h62, hw⟩ := hw
    refine v_iald X 0 rfl (by decide) h62 (gD D_X12_lacks_0 9 rfl) ?_
    refine v_iconst X 1 (gD D_X12_lacks_0 10 rfl) (by decide) ?_
    refine v_isub X (gD D_X12_lacks_0 11 rfl) ?_
    refine v_callSi X (As := [.int x2, .int 0, .int ((sA s52 a61 x1.toNatClampNeg) - 1)]) (rest := []) (nA := 3) 0 0 0 0 (fun ht => c_X12_isIn htr (ht.sub [] rfl) hw) (Or.inl rfl) lk_sRX12_183 (by decide +kernel) rfl rfl (by decide) (by decide) (by decide) rfl rfl (gD D_X12_lacks_0 12 rfl) (fun x63 s64 hq _ _ => ?_)
    replace hw := hq
    clear hq
    refine v_if_eq X 28 (gD D_X12_lacks_0 13 rfl) (by decide) (fun c65 => ?_) (fun c65 => ?_)
    · replace hw := hw.1 c65
      exact v_sub [1] [0, 1, 2] rfl rfl (t_X12_lacks_28 X hr hin htr  a0 x1 x2 s64 hw)
    · replace hw := hw.2 c65
      refine v_iconst X 1 (gD D_X12_lacks_0 14 rfl) (by decide) ?_
      refine v_goto X 29 (gD D_X12_lacks_0 15 rfl) (by decide) ?_
      exact v_sub [1] [0, 1, 2] rfl rfl (t_X12_lacks_29 X hr hin htr  a0 x1 x2 1 s64 hw)
set_option maxRecDepth 100000 in
set_option maxHeartbeats 4000000 in
theorem t_X12_line_67 {p : Program} {l : Launch} {e : Env} {s : State} {m : MethodId} {args : Array Value} {below : List Frame} {meth : Method} {c : Code} {G : GX} {σ0 : St} {mc ms : Nat} {Q : Int32 → St → Prop} (X : VC p l (rmD 2 mc ms) s m args meth c G 2 mc ms 6 RX12 cX12_line) (hr : meth.sig.returnType = (some .int)) (hin : meth.name = yX12_line.name) (htr : l.stackTraces = false) : ∀ (a0 : Nat) (x1 : Int32) (x2 : Int32) (x3 : Int32) (as0 : Nat) (xs1 : Int32) (σ : St), w_X12_line_67 Q  a0 x1 x2 x3 as0 xs1 σ → V p l e (rmD 2 mc ms) s m args below meth c (MQ below (va_Qi Q (gB G 2 σ0) (GA G)) args s mc ms (GA G)) G 2 σ0 mc ms 6 σ 0 0 [(some a0, 13), (some as0, 13)] 67 [(0, va_rf (some a0)), (1, .int x1), (2, .int x2), (3, .int x3)] [.int xs1, va_rf (some as0)] := by
  intro a0 x1 x2 x3 as0 xs1 σ hw
  unfold w_X12_line_67 at hw
  refine v_callVi X (As := [.int xs1]) (rest := []) (nA := 1) 0 0 0 0 (fun ht => c_X12_holds htr (ht.sub [1] rfl) hw) (Or.inl rfl) 1 (κ := 13) rfl (by decide) (rfl : gCl[12]? = some (RX12, TX12, 65)) lk_vRX12_223 (by decide +kernel) rfl rfl (by decide) (by decide) (by decide) rfl rfl (gD D_X12_line_0 35 rfl) (fun x62 s63 hq _ _ => ?_)
  replace hw := hq
  clear hq
  refine v_if_ne X 75 (gD D_X12_line_0 36 rfl) (by decide) (fun c64 => ?_) (fun c64 => ?_)
  · replace hw := hw.1 c64
    refine v_iconst X 3 (gD D_X12_line_0 39 rfl) (by decide) ?_
    refine v_iload_n X 1 rfl (gD D_X12_line_0 40 rfl) rfl ?_
    refine v_imul X (gD D_X12_line_0 41 rfl) ?_
    refine v_aload_n X 0 rfl (gD D_X12_line_0 42 rfl) rfl ?_
    refine v_getR X RX12 TX12 65 13 12 (by decide) rfl gin12 31 1231 RX12 (Or.inl rfl) 0 21 rfl rfl rfl (by decide) lk_fRX12_83 (gD D_X12_line_0 43 rfl) (fun o65 eo65 => ?_)
    replace hw := hw o65 eo65
    refine v_iload_n X 1 rfl (gD D_X12_line_0 44 rfl) rfl ?_
    obtain ⟨a66, rfl, hw⟩ := hw
    obtain ⟨h67, hw⟩ := hw
    refine v_iald X 0 rfl (by decide) h67 (gD D_X12_line_0 45 rfl) ?_
    refine v_iadd X (gD D_X12_line_0 46 rfl) ?_
    refine v_topi (fun x68 ex68 => ?_)
    replace hw := hw x68 ex68
    refine v_istore X [(5, .int x68), (0, va_rf (some a0)), (1, .int x1), (2, .int x2), (3, .int x3)] (gD D_X12_line_0 47 rfl) (by decide) rfl ?_
    refine v_aload_n X 1 rfl (gD D_X12_line_0 48 rfl) rfl ?_
    refine v_getR X RX12 TX12 65 13 12 (by decide) rfl gin12 36 1236 RX12 (Or.inl rfl) 1 21 rfl rfl rfl (by decide) lk_fRX12_98 (gD D_X12_line_0 49 rfl) (fun o69 eo69 => ?_)
    replace hw := hw o69 eo69
    refine v_iload X 0 rfl (gD D_X12_line_0 50 rfl) ?_
    refine v_iload_n X 3 rfl (gD D_X12_line_0 51 rfl) rfl ?_
    obtain ⟨a70, rfl, hw⟩ := hw
    obtain ⟨h71, hw⟩ := hw
    refine v_iast X 0 rfl (by decide) (Or.inl rfl) h71 (gD D_X12_line_0 52 rfl) (fun s72 es72 => ?_)
    replace hw := hw s72 es72
    refine v_aload_n X 1 rfl (gD D_X12_line_0 53 rfl) rfl ?_
    refine v_getR X RX12 TX12 65 13 12 (by decide) rfl gin12 37 1237 RX12 (Or.inl rfl) 2 21 rfl rfl rfl (by decide) lk_fRX12_101 (gD D_X12_line_0 54 rfl) (fun o73 eo73 => ?_)
    replace hw := hw o73 eo73
    refine v_iload X 0 rfl (gD D_X12_line_0 55 rfl) ?_
    refine v_iload_n X 4 rfl (gD D_X12_line_0 56 rfl) rfl ?_
    obtain ⟨a74, rfl, hw⟩ := hw
    obtain ⟨h75, hw⟩ := hw
    refine v_iast X 0 rfl (by decide) (Or.inl rfl) h75 (gD D_X12_line_0 57 rfl) (fun s76 es76 => ?_)
    replace hw := hw s76 es76
    refine v_aload_n X 1 rfl (gD D_X12_line_0 58 rfl) rfl ?_
    refine v_getR X RX12 TX12 65 13 12 (by decide) rfl gin12 31 1231 RX12 (Or.inl rfl) 3 21 rfl rfl rfl (by decide) lk_fRX12_83 (gD D_X12_line_0 59 rfl) (fun o77 eo77 => ?_)
    replace hw := hw o77 eo77
    refine v_iload_n X 2 rfl (gD D_X12_line_0 60 rfl) rfl ?_
    refine v_dup2 X (gD D_X12_line_0 61 rfl) rfl (rf_cat _) ?_
    obtain ⟨a78, rfl, hw⟩ := hw
    obtain ⟨h79, hw⟩ := hw
    refine v_iald X 0 rfl (by decide) h79 (gD D_X12_line_0 62 rfl) ?_
    refine v_iconst X 1 (gD D_X12_line_0 63 rfl) (by decide) ?_
    refine v_iadd X (gD D_X12_line_0 64 rfl) ?_
    obtain ⟨h80, hw⟩ := hw
    refine v_iast X 0 rfl (by decide) (Or.inl rfl) h80 (gD D_X12_line_0 65 rfl) (fun s81 es81 => ?_)
    replace hw := hw s81 es81
    refine v_aload_n X 1 rfl (gD D_X12_line_0 66 rfl) rfl ?_
    refine v_getR X RX12 TX12 65 13 12 (by decide) rfl gin12 31 1231 RX12 (Or.inl rfl) 4 21 rfl rfl rfl (by decide) lk_fRX12_83 (gD D_X12_line_0 67 rfl) (fun o82 eo82 => ?_)
    replace hw := hw o82 eo82
    refine v_iload_n X 2 rfl (gD D_X12_line_0 68 rfl) rfl ?_
    obtain ⟨a83, rfl, hw⟩ := hw
    obtain ⟨h84, hw⟩ := hw
    refine v_iald X 0 rfl (by decide) h84 (gD D_X12_line_0 69 rfl) ?_
    exact v_iret X hr hw (gD D_X12_line_0 70 rfl)
  · replace hw := hw.2 c64
    refine v_iconst X 0 (gD D_X12_line_0 37 rfl) (by decide) ?_
    exact v_iret X hr hw (gD D_X12_line_0 38 rfl)
set_option maxRecDepth 100000 in
set_option maxHeartbeats 4000000 in
theorem t_X12_line_20 {p : Program} {l : Launch} {e : Env} {s : State} {m : MethodId} {args : Array Value} {below : List Frame} {meth : Method} {c : Code} {G : GX} {σ0 : St} {mc ms : Nat} {Q : Int32 → St → Prop} (X : VC p l (rmD 2 mc ms) s m args meth c G 2 mc ms 6 RX12 cX12_line) (hr : meth.sig.returnType = (some .int)) (hin : meth.name = yX12_line.name) (htr : l.stackTraces = false) : ∀ (a0 : Nat) (x1 : Int32) (x2 : Int32) (x3 : Int32) (xs0 : Int32) (σ : St), w_X12_line_20 Q  a0 x1 x2 x3 xs0 σ → V p l e (rmD 2 mc ms) s m args below meth c (MQ below (va_Qi Q (gB G 2 σ0) (GA G)) args s mc ms (GA G)) G 2 σ0 mc ms 6 σ 0 0 [(some a0, 13)] 20 [(0, va_rf (some a0)), (1, .int x1), (2, .int x2), (3, .int x3)] [.int xs0] := by
  intro a0 x1 x2 x3 xs0 σ hw
  unfold w_X12_line_20 at hw
  refine v_istore X [(4, .int xs0), (0, va_rf (some a0)), (1, .int x1), (2, .int x2), (3, .int x3)] (gD D_X12_line_0 10 rfl) (by decide) rfl ?_
  refine v_aload_n X 1 rfl (gD D_X12_line_0 11 rfl) rfl ?_
  refine v_iload X 0 rfl (gD D_X12_line_0 12 rfl) ?_
  refine v_if_ne X 32 (gD D_X12_line_0 13 rfl) (by decide) (fun c54 => ?_) (fun c54 => ?_)
  · replace hw := hw.1 c54
    refine v_iload_n X 4 rfl (gD D_X12_line_0 16 rfl) rfl ?_
    refine v_callSi X (As := [.int x3]) (rest := [va_rf (some a0)]) (nA := 1) 0 0 0 0 (fun ht => c_X12_arePieces htr (ht.sub [] rfl) hw) (Or.inl rfl) lk_sRX12_244 (by decide +kernel) rfl rfl (by simp [rf_cat, ct_i]) (by decide) (by decide) rfl rfl (gD D_X12_line_0 17 rfl) (fun x55 s56 hq _ _ => ?_)
    replace hw := hq
    clear hq
    refine v_if_ne X 43 (gD D_X12_line_0 18 rfl) (by decide) (fun c57 => ?_) (fun c57 => ?_)
    · replace hw := hw.1 c57
      refine v_aload_n X 1 rfl (gD D_X12_line_0 21 rfl) rfl ?_
      refine v_getR X RX12 TX12 65 13 12 (by decide) rfl gin12 31 1231 RX12 (Or.inl rfl) 0 21 rfl rfl rfl (by decide) lk_fRX12_83 (gD D_X12_line_0 22 rfl) (fun o58 eo58 => ?_)
      replace hw := hw o58 eo58
      refine v_iload_n X 2 rfl (gD D_X12_line_0 23 rfl) rfl ?_
      obtain ⟨a59, rfl, hw⟩ := hw
      obtain ⟨h60, hw⟩ := hw
      refine v_iald X 0 rfl (by decide) h60 (gD D_X12_line_0 24 rfl) ?_
      refine v_iconst X 3 (gD D_X12_line_0 25 rfl) (by decide) ?_
      refine v_icmp_eq X 62 (gD D_X12_line_0 26 rfl) (by decide) (fun c61 => ?_) (fun c61 => ?_)
      · replace hw := hw.1 c61
        refine v_iconst X 3 (gD D_X12_line_0 32 rfl) (by decide) ?_
        refine v_goto X 67 (gD D_X12_line_0 33 rfl) (by decide) ?_
        exact v_sub [1, 1] [1, 2, 3, 4] rfl rfl (t_X12_line_67 X hr hin htr  a0 x1 x2 x3 a0 3 s56 hw)
      · replace hw := hw.2 c61
        refine v_aload_n X 1 rfl (gD D_X12_line_0 27 rfl) rfl ?_
        refine v_getR X RX12 TX12 65 13 12 (by decide) rfl gin12 32 1232 RX12 (Or.inl rfl) 1 22 rfl rfl rfl (by decide) lk_fRX12_86 (gD D_X12_line_0 28 rfl) (fun o85 eo85 => ?_)
        replace hw := hw o85 eo85
        refine v_iload_n X 2 rfl (gD D_X12_line_0 29 rfl) rfl ?_
        obtain ⟨a86, rfl, hw⟩ := hw
        obtain ⟨h87, hw⟩ := hw
        refine v_zald X 0 rfl rfl h87 (gD D_X12_line_0 30 rfl) ?_
        refine v_if_eq X 66 (gD D_X12_line_0 31 rfl) (by decide) (fun c88 => ?_) (fun c88 => ?_)
        · replace hw := hw.1 c88
          refine v_iconst X 0 (gD D_X12_line_0 34 rfl) (by decide) ?_
          exact v_sub [2, 2] [1, 2, 3, 4] rfl rfl (t_X12_line_67 X hr hin htr  a0 x1 x2 x3 a0 0 s56 hw)
        · replace hw := hw.2 c88
          refine v_iconst X 3 (gD D_X12_line_0 32 rfl) (by decide) ?_
          refine v_goto X 67 (gD D_X12_line_0 33 rfl) (by decide) ?_
          exact v_sub [2, 2] [1, 2, 3, 4] rfl rfl (t_X12_line_67 X hr hin htr  a0 x1 x2 x3 a0 3 s56 hw)
    · replace hw := hw.2 c57
      refine v_iconst X 2 (gD D_X12_line_0 19 rfl) (by decide) ?_
      refine v_goto X 67 (gD D_X12_line_0 20 rfl) (by decide) ?_
      exact v_sub [0, 0] [1, 2, 3, 4] rfl rfl (t_X12_line_67 X hr hin htr  a0 x1 x2 x3 a0 2 s56 hw)
  · replace hw := hw.2 c54
    refine v_iconst X 1 (gD D_X12_line_0 14 rfl) (by decide) ?_
    refine v_goto X 67 (gD D_X12_line_0 15 rfl) (by decide) ?_
    exact v_sub [0, 0] [1, 2, 3, 4] rfl rfl (t_X12_line_67 X hr hin htr  a0 x1 x2 x3 a0 1 σ hw)
set_option maxRecDepth 100000 in
set_option maxHeartbeats 4000000 in
theorem t_X12_line_19 {p : Program} {l : Launch} {e : Env} {s : State} {m : MethodId} {args : Array Value} {below : List Frame} {meth : Method} {c : Code} {G : GX} {σ0 : St} {mc ms : Nat} {Q : Int32 → St → Prop} (X : VC p l (rmD 2 mc ms) s m args meth c G 2 mc ms 6 RX12 cX12_line) (hr : meth.sig.returnType = (some .int)) (hin : meth.name = yX12_line.name) (htr : l.stackTraces = false) : ∀ (a0 : Nat) (x1 : Int32) (x2 : Int32) (x3 : Int32) (σ : St), w_X12_line_19 Q  a0 x1 x2 x3 σ → V p l e (rmD 2 mc ms) s m args below meth c (MQ below (va_Qi Q (gB G 2 σ0) (GA G)) args s mc ms (GA G)) G 2 σ0 mc ms 6 σ 0 0 [(some a0, 13)] 19 [(0, va_rf (some a0)), (1, .int x1), (2, .int x2), (3, .int x3)] [] := by
  intro a0 x1 x2 x3 σ hw
  unfold w_X12_line_19 at hw
  refine v_iconst X 0 (gD D_X12_line_0 9 rfl) (by decide) ?_
  exact v_sub [0] [0, 1, 2, 3] rfl rfl (t_X12_line_20 X hr hin htr  a0 x1 x2 x3 0 σ hw)
set_option maxRecDepth 100000 in
set_option maxHeartbeats 4000000 in
theorem c_X12_line {l : Launch} {G : GX} (htr : l.stackTraces = false) {σ : St} {a0 : Nat} {x1 : Int32} {x2 : Int32} {x3 : Int32} {Q : Int32 → St → Prop} (ht : tvOk σ [(some a0, 13)]) (hw : w_X12_line a0 x1 x2 x3 σ Q) : MI l G 2 σ yX12_line cX12_line 6 (some .int) 2 0 0 [va_rf (some a0), .int x1, .int x2, .int x3] Q := by
  unfold w_X12_line at hw
  refine m_start RX12 (by decide) htr ht (Nat.le_of_ble_eq_true rfl) rfl (lv := [(0, va_rf (some a0)), (1, .int x1), (2, .int x2), (3, .int x3)]) (d := 2) (fun p e s m args below meth c X hr hin => ?_)
  refine v_aload_n X 0 rfl (gD D_X12_line_0 0 rfl) rfl ?_
  refine v_iload_n X 1 rfl (gD D_X12_line_0 1 rfl) rfl ?_
  refine v_callVi X (As := [.int x1]) (rest := []) (nA := 1) 0 0 0 0 (fun ht => c_X12_isOrder htr (ht.sub [0] rfl) hw) (Or.inl rfl) 0 (κ := 13) rfl (by decide) (rfl : gCl[12]? = some (RX12, TX12, 65)) lk_vRX12_287 (by decide +kernel) rfl rfl (by decide) (by decide) (by decide) rfl rfl (gD D_X12_line_0 2 rfl) (fun x51 s52 hq _ _ => ?_)
  replace hw := hq
  clear hq
  refine v_if_eq X 19 (gD D_X12_line_0 3 rfl) (by decide) (fun c53 => ?_) (fun c53 => ?_)
  · replace hw := hw.1 c53
    exact v_sub [0] [0, 1, 2, 3] rfl rfl (t_X12_line_19 X hr hin htr  a0 x1 x2 x3 s52 hw)
  · replace hw := hw.2 c53
    refine v_iload_n X 2 rfl (gD D_X12_line_0 4 rfl) rfl ?_
    refine v_callSi X (As := [.int x2]) (rest := []) (nA := 1) 0 0 0 0 (fun ht => c_X12_isItem htr (ht.sub [] rfl) hw) (Or.inl rfl) lk_sRX12_226 (by decide +kernel) rfl rfl (by decide) (by decide) (by decide) rfl rfl (gD D_X12_line_0 5 rfl) (fun x89 s90 hq _ _ => ?_)
    replace hw := hq
    clear hq
    refine v_if_eq X 19 (gD D_X12_line_0 6 rfl) (by decide) (fun c91 => ?_) (fun c91 => ?_)
    · replace hw := hw.1 c91
      exact v_sub [0] [0, 1, 2, 3] rfl rfl (t_X12_line_19 X hr hin htr  a0 x1 x2 x3 s90 hw)
    · replace hw := hw.2 c91
      refine v_iconst X 1 (gD D_X12_line_0 7 rfl) (by decide) ?_
      refine v_goto X 20 (gD D_X12_line_0 8 rfl) (by decide) ?_
      exact v_sub [0] [0, 1, 2, 3] rfl rfl (t_X12_line_20 X hr hin htr  a0 x1 x2 x3 1 s90 hw)
set_option maxRecDepth 100000 in
set_option maxHeartbeats 4000000 in
theorem t_X12_lose_44 {p : Program} {l : Launch} {e : Env} {s : State} {m : MethodId} {args : Array Value} {below : List Frame} {meth : Method} {c : Code} {G : GX} {σ0 : St} {mc ms : Nat} {Q : Int32 → St → Prop} (X : VC p l (rmD 2 mc ms) s m args meth c G 2 mc ms 5 RX12 cX12_lose) (hr : meth.sig.returnType = (some .int)) (hin : meth.name = yX12_lose.name) (htr : l.stackTraces = false) : ∀ (a0 : Nat) (x1 : Int32) (x2 : Int32) (x3 : Int32) (as0 : Nat) (xs1 : Int32) (σ : St), w_X12_lose_44 Q  a0 x1 x2 x3 as0 xs1 σ → V p l e (rmD 2 mc ms) s m args below meth c (MQ below (va_Qi Q (gB G 2 σ0) (GA G)) args s mc ms (GA G)) G 2 σ0 mc ms 5 σ 0 0 [(some a0, 13), (some as0, 13)] 44 [(0, va_rf (some a0)), (1, .int x1), (2, .int x2), (3, .int x3)] [.int xs1, va_rf (some as0)] := by
  intro a0 x1 x2 x3 as0 xs1 σ hw
  unfold w_X12_lose_44 at hw
  refine v_callVi X (As := [.int xs1]) (rest := []) (nA := 1) 0 0 0 0 (fun ht => c_X12_holds htr (ht.sub [1] rfl) hw) (Or.inl rfl) 1 (κ := 13) rfl (by decide) (rfl : gCl[12]? = some (RX12, TX12, 65)) lk_vRX12_223 (by decide +kernel) rfl rfl (by decide) (by decide) (by decide) rfl rfl (gD D_X12_lose_0 22 rfl) (fun x58 s59 hq _ _ => ?_)
  replace hw := hq
  clear hq
  refine v_if_ne X 52 (gD D_X12_lose_0 23 rfl) (by decide) (fun c60 => ?_) (fun c60 => ?_)
  · replace hw := hw.1 c60
    refine v_aload_n X 0 rfl (gD D_X12_lose_0 26 rfl) rfl ?_
    refine v_getR X RX12 TX12 65 13 12 (by decide) rfl gin12 20 1220 RX12 (Or.inl rfl) 0 21 rfl rfl rfl (by decide) lk_fRX12_56 (gD D_X12_lose_0 27 rfl) (fun o61 eo61 => ?_)
    replace hw := hw o61 eo61
    refine v_bipush X 12 (gD D_X12_lose_0 28 rfl) (by decide) ?_
    refine v_iload_n X 1 rfl (gD D_X12_lose_0 29 rfl) rfl ?_
    refine v_imul X (gD D_X12_lose_0 30 rfl) ?_
    refine v_iload_n X 2 rfl (gD D_X12_lose_0 31 rfl) rfl ?_
    refine v_iadd X (gD D_X12_lose_0 32 rfl) ?_
    refine v_topi (fun x62 ex62 => ?_)
    replace hw := hw x62 ex62
    refine v_dup2 X (gD D_X12_lose_0 33 rfl) rfl (rf_cat _) ?_
    obtain ⟨a63, rfl, hw⟩ := hw
    obtain ⟨h64, hw⟩ := hw
    refine v_iald X 0 rfl (by decide) h64 (gD D_X12_lose_0 34 rfl) ?_
    refine v_iload_n X 3 rfl (gD D_X12_lose_0 35 rfl) rfl ?_
    refine v_aload_n X 0 rfl (gD D_X12_lose_0 36 rfl) rfl ?_
    refine v_getR X RX12 TX12 65 13 12 (by decide) rfl gin12 20 1220 RX12 (Or.inl rfl) 1 21 rfl rfl rfl (by decide) lk_fRX12_56 (gD D_X12_lose_0 37 rfl) (fun o65 eo65 => ?_)
    replace hw := hw o65 eo65
    refine v_bipush X 12 (gD D_X12_lose_0 38 rfl) (by decide) ?_
    refine v_iload_n X 1 rfl (gD D_X12_lose_0 39 rfl) rfl ?_
    refine v_imul X (gD D_X12_lose_0 40 rfl) ?_
    refine v_iload_n X 2 rfl (gD D_X12_lose_0 41 rfl) rfl ?_
    refine v_iadd X (gD D_X12_lose_0 42 rfl) ?_
    obtain ⟨a66, rfl, hw⟩ := hw
    obtain ⟨h67, hw⟩ := hw
    refine v_iald X 0 rfl (by decide) h67 (gD D_X12_lose_0 43 rfl) ?_
    refine v_callSi X (As := [.int x3, .int (sA s59 a66 ((12 * x1) + x2).toNatClampNeg)]) (rest := [.int (sA s59 a63 x62.toNatClampNeg), .int x62, va_rf (some a63)]) (nA := 2) 0 0 0 0 (fun ht => c_X12_less htr (ht.sub [] rfl) hw) (Or.inl rfl) lk_sRX12_281 (by decide +kernel) rfl rfl (by simp [rf_cat, ct_i]) (by decide) (by decide) rfl rfl (gD D_X12_lose_0 44 rfl) (fun x68 s69 hq _ _ => ?_)
    replace hw := hq
    clear hq
    refine v_isub X (gD D_X12_lose_0 45 rfl) ?_
    obtain ⟨h70, hw⟩ := hw
    refine v_iast X 1 rfl (by decide) (Or.inl rfl) h70 (gD D_X12_lose_0 46 rfl) (fun s71 es71 => ?_)
    replace hw := hw s71 es71
    refine v_aload_n X 0 rfl (gD D_X12_lose_0 47 rfl) rfl ?_
    refine v_getR X RX12 TX12 65 13 12 (by decide) rfl gin12 20 1220 RX12 (Or.inl rfl) 2 21 rfl rfl rfl (by decide) lk_fRX12_56 (gD D_X12_lose_0 48 rfl) (fun o72 eo72 => ?_)
    replace hw := hw o72 eo72
    refine v_bipush X 12 (gD D_X12_lose_0 49 rfl) (by decide) ?_
    refine v_iload_n X 1 rfl (gD D_X12_lose_0 50 rfl) rfl ?_
    refine v_imul X (gD D_X12_lose_0 51 rfl) ?_
    refine v_iload_n X 2 rfl (gD D_X12_lose_0 52 rfl) rfl ?_
    refine v_iadd X (gD D_X12_lose_0 53 rfl) ?_
    obtain ⟨a73, rfl, hw⟩ := hw
    obtain ⟨h74, hw⟩ := hw
    refine v_iald X 0 rfl (by decide) h74 (gD D_X12_lose_0 54 rfl) ?_
    exact v_iret X hr hw (gD D_X12_lose_0 55 rfl)
  · replace hw := hw.2 c60
    refine v_iconst X 0 (gD D_X12_lose_0 24 rfl) (by decide) ?_
    exact v_iret X hr hw (gD D_X12_lose_0 25 rfl)
set_option maxRecDepth 100000 in
set_option maxHeartbeats 4000000 in
theorem t_X12_lose_20 {p : Program} {l : Launch} {e : Env} {s : State} {m : MethodId} {args : Array Value} {below : List Frame} {meth : Method} {c : Code} {G : GX} {σ0 : St} {mc ms : Nat} {Q : Int32 → St → Prop} (X : VC p l (rmD 2 mc ms) s m args meth c G 2 mc ms 5 RX12 cX12_lose) (hr : meth.sig.returnType = (some .int)) (hin : meth.name = yX12_lose.name) (htr : l.stackTraces = false) : ∀ (a0 : Nat) (x1 : Int32) (x2 : Int32) (x3 : Int32) (xs0 : Int32) (σ : St), w_X12_lose_20 Q  a0 x1 x2 x3 xs0 σ → V p l e (rmD 2 mc ms) s m args below meth c (MQ below (va_Qi Q (gB G 2 σ0) (GA G)) args s mc ms (GA G)) G 2 σ0 mc ms 5 σ 0 0 [(some a0, 13)] 20 [(0, va_rf (some a0)), (1, .int x1), (2, .int x2), (3, .int x3)] [.int xs0] := by
  intro a0 x1 x2 x3 xs0 σ hw
  unfold w_X12_lose_20 at hw
  refine v_istore X [(4, .int xs0), (0, va_rf (some a0)), (1, .int x1), (2, .int x2), (3, .int x3)] (gD D_X12_lose_0 10 rfl) (by decide) rfl ?_
  refine v_aload_n X 1 rfl (gD D_X12_lose_0 11 rfl) rfl ?_
  refine v_iload X 0 rfl (gD D_X12_lose_0 12 rfl) ?_
  refine v_if_ne X 32 (gD D_X12_lose_0 13 rfl) (by decide) (fun c54 => ?_) (fun c54 => ?_)
  · replace hw := hw.1 c54
    refine v_iload_n X 4 rfl (gD D_X12_lose_0 16 rfl) rfl ?_
    refine v_callSi X (As := [.int x3]) (rest := [va_rf (some a0)]) (nA := 1) 0 0 0 0 (fun ht => c_X12_arePieces htr (ht.sub [] rfl) hw) (Or.inl rfl) lk_sRX12_244 (by decide +kernel) rfl rfl (by simp [rf_cat, ct_i]) (by decide) (by decide) rfl rfl (gD D_X12_lose_0 17 rfl) (fun x55 s56 hq _ _ => ?_)
    replace hw := hq
    clear hq
    refine v_if_eq X 43 (gD D_X12_lose_0 18 rfl) (by decide) (fun c57 => ?_) (fun c57 => ?_)
    · replace hw := hw.1 c57
      refine v_iconst X 2 (gD D_X12_lose_0 21 rfl) (by decide) ?_
      exact v_sub [0, 0] [1, 2, 3, 4] rfl rfl (t_X12_lose_44 X hr hin htr  a0 x1 x2 x3 a0 2 s56 hw)
    · replace hw := hw.2 c57
      refine v_iconst X 0 (gD D_X12_lose_0 19 rfl) (by decide) ?_
      refine v_goto X 44 (gD D_X12_lose_0 20 rfl) (by decide) ?_
      exact v_sub [0, 0] [1, 2, 3, 4] rfl rfl (t_X12_lose_44 X hr hin htr  a0 x1 x2 x3 a0 0 s56 hw)
  · replace hw := hw.2 c54
    refine v_iconst X 1 (gD D_X12_lose_0 14 rfl) (by decide) ?_
    refine v_goto X 44 (gD D_X12_lose_0 15 rfl) (by decide) ?_
    exact v_sub [0, 0] [1, 2, 3, 4] rfl rfl (t_X12_lose_44 X hr hin htr  a0 x1 x2 x3 a0 1 σ hw)
set_option maxRecDepth 100000 in
set_option maxHeartbeats 4000000 in
theorem t_X12_lose_19 {p : Program} {l : Launch} {e : Env} {s : State} {m : MethodId} {args : Array Value} {below : List Frame} {meth : Method} {c : Code} {G : GX} {σ0 : St} {mc ms : Nat} {Q : Int32 → St → Prop} (X : VC p l (rmD 2 mc ms) s m args meth c G 2 mc ms 5 RX12 cX12_lose) (hr : meth.sig.returnType = (some .int)) (hin : meth.name = yX12_lose.name) (htr : l.stackTraces = false) : ∀ (a0 : Nat) (x1 : Int32) (x2 : Int32) (x3 : Int32) (σ : St), w_X12_lose_19 Q  a0 x1 x2 x3 σ → V p l e (rmD 2 mc ms) s m args below meth c (MQ below (va_Qi Q (gB G 2 σ0) (GA G)) args s mc ms (GA G)) G 2 σ0 mc ms 5 σ 0 0 [(some a0, 13)] 19 [(0, va_rf (some a0)), (1, .int x1), (2, .int x2), (3, .int x3)] [] := by
  intro a0 x1 x2 x3 σ hw
  unfold w_X12_lose_19 at hw
  refine v_iconst X 0 (gD D_X12_lose_0 9 rfl) (by decide) ?_
  exact v_sub [0] [0, 1, 2, 3] rfl rfl (t_X12_lose_20 X hr hin htr  a0 x1 x2 x3 0 σ hw)
set_option maxRecDepth 100000 in
set_option maxHeartbeats 4000000 in
theorem c_X12_lose {l : Launch} {G : GX} (htr : l.stackTraces = false) {σ : St} {a0 : Nat} {x1 : Int32} {x2 : Int32} {x3 : Int32} {Q : Int32 → St → Prop} (ht : tvOk σ [(some a0, 13)]) (hw : w_X12_lose a0 x1 x2 x3 σ Q) : MI l G 2 σ yX12_lose cX12_lose 5 (some .int) 2 0 0 [va_rf (some a0), .int x1, .int x2, .int x3] Q := by
  unfold w_X12_lose at hw
  refine m_start RX12 (by decide) htr ht (Nat.le_of_ble_eq_true rfl) rfl (lv := [(0, va_rf (some a0)), (1, .int x1), (2, .int x2), (3, .int x3)]) (d := 2) (fun p e s m args below meth c X hr hin => ?_)
  refine v_iload_n X 1 rfl (gD D_X12_lose_0 0 rfl) rfl ?_
  refine v_callSi X (As := [.int x1]) (rest := []) (nA := 1) 0 0 0 0 (fun ht => c_X12_isSlot htr (ht.sub [] rfl) hw) (Or.inl rfl) lk_sRX12_217 (by decide +kernel) rfl rfl (by decide) (by decide) (by decide) rfl rfl (gD D_X12_lose_0 1 rfl) (fun x51 s52 hq _ _ => ?_)
  replace hw := hq
  clear hq
  refine v_if_eq X 19 (gD D_X12_lose_0 2 rfl) (by decide) (fun c53 => ?_) (fun c53 => ?_)
  · replace hw := hw.1 c53
    exact v_sub [0] [0, 1, 2, 3] rfl rfl (t_X12_lose_19 X hr hin htr  a0 x1 x2 x3 s52 hw)
  · replace hw := hw.2 c53
    refine v_aload_n X 0 rfl (gD D_X12_lose_0 3 rfl) rfl ?_
    refine v_iload_n X 2 rfl (gD D_X12_lose_0 4 rfl) rfl ?_
    refine v_callVi X (As := [.int x2]) (rest := []) (nA := 1) 0 0 0 0 (fun ht => c_X12_isLot htr (ht.sub [0] rfl) hw) (Or.inl rfl) 0 (κ := 13) rfl (by decide) (rfl : gCl[12]? = some (RX12, TX12, 65)) lk_vRX12_232 (by decide +kernel) rfl rfl (by decide) (by decide) (by decide) rfl rfl (gD D_X12_lose_0 5 rfl) (fun x75 s76 hq _ _ => ?_)
    replace hw := hq
    clear hq
    refine v_if_eq X 19 (gD D_X12_lose_0 6 rfl) (by decide) (fun c77 => ?_) (fun c77 => ?_)
    · replace hw := hw.1 c77
      exact v_sub [0] [0, 1, 2, 3] rfl rfl (t_X12_lose_19 X hr hin htr  a0 x1 x2 x3 s76 hw)
    · replace hw := hw.2 c77
      refine v_iconst X 1 (gD D_X12_lose_0 7 rfl) (by decide) ?_
      refine v_goto X 20 (gD D_X12_lose_0 8 rfl) (by decide) ?_
      exact v_sub [0] [0, 1, 2, 3] rfl rfl (t_X12_lose_20 X hr hin htr  a0 x1 x2 x3 1 s76 hw)
set_option maxRecDepth 100000 in
set_option maxHeartbeats 4000000 in
theorem t_X12_lot_41 {p : Program} {l : Launch} {e : Env} {s : State} {m : MethodId} {args : Array Value} {below : List Frame} {meth : Method} {c : Code} {G : GX} {σ0 : St} {mc ms : Nat} {Q : Int32 → St → Prop} (X : VC p l (rmD 2 mc ms) s m args meth c G 2 mc ms 3 RX12 cX12_lot) (hr : meth.sig.returnType = (some .int)) (hin : meth.name = yX12_lot.name) (htr : l.stackTraces = false) : ∀ (a0 : Nat) (x1 : Int32) (x2 : Int32) (as0 : Nat) (xs1 : Int32) (σ : St), w_X12_lot_41 Q  a0 x1 x2 as0 xs1 σ → V p l e (rmD 2 mc ms) s m args below meth c (MQ below (va_Qi Q (gB G 2 σ0) (GA G)) args s mc ms (GA G)) G 2 σ0 mc ms 3 σ 0 0 [(some a0, 13), (some as0, 13)] 41 [(0, va_rf (some a0)), (1, .int x1), (2, .int x2)] [.int xs1, va_rf (some as0)] := by
  intro a0 x1 x2 as0 xs1 σ hw
  unfold w_X12_lot_41 at hw
  refine v_callVi X (As := [.int xs1]) (rest := []) (nA := 1) 0 0 0 0 (fun ht => c_X12_holds htr (ht.sub [1] rfl) hw) (Or.inl rfl) 1 (κ := 13) rfl (by decide) (rfl : gCl[12]? = some (RX12, TX12, 65)) lk_vRX12_223 (by decide +kernel) rfl rfl (by decide) (by decide) (by decide) rfl rfl (gD D_X12_lot_0 20 rfl) (fun x58 s59 hq _ _ => ?_)
  replace hw := hq
  clear hq
  refine v_if_ne X 49 (gD D_X12_lot_0 21 rfl) (by decide) (fun c60 => ?_) (fun c60 => ?_)
  · replace hw := hw.1 c60
    refine v_aload_n X 0 rfl (gD D_X12_lot_0 24 rfl) rfl ?_
    refine v_getR X RX12 TX12 65 13 12 (by decide) rfl gin12 16 1216 RX12 (Or.inl rfl) 0 21 rfl rfl rfl (by decide) lk_fRX12_44 (gD D_X12_lot_0 25 rfl) (fun o61 eo61 => ?_)
    replace hw := hw o61 eo61
    refine v_aload_n X 0 rfl (gD D_X12_lot_0 26 rfl) rfl ?_
    refine v_getI X RX12 TX12 65 13 12 (by decide) rfl gin12 15 1215 RX12 (Or.inl rfl) 1 rfl rfl (by decide) lk_fRX12_187 (gD D_X12_lot_0 27 rfl) ?_
    refine v_iload_n X 1 rfl (gD D_X12_lot_0 28 rfl) rfl ?_
    obtain ⟨a62, rfl, hw⟩ := hw
    obtain ⟨h63, hw⟩ := hw
    refine v_iast X 0 rfl (by decide) (Or.inl rfl) h63 (gD D_X12_lot_0 29 rfl) (fun s64 es64 => ?_)
    replace hw := hw s64 es64
    refine v_aload_n X 0 rfl (gD D_X12_lot_0 30 rfl) rfl ?_
    refine v_getR X RX12 TX12 65 13 12 (by decide) rfl gin12 17 1217 RX12 (Or.inl rfl) 1 21 rfl rfl rfl (by decide) lk_fRX12_47 (gD D_X12_lot_0 31 rfl) (fun o65 eo65 => ?_)
    replace hw := hw o65 eo65
    refine v_aload_n X 0 rfl (gD D_X12_lot_0 32 rfl) rfl ?_
    refine v_getI X RX12 TX12 65 13 12 (by decide) rfl gin12 15 1215 RX12 (Or.inl rfl) 2 rfl rfl (by decide) lk_fRX12_187 (gD D_X12_lot_0 33 rfl) ?_
    refine v_iload_n X 2 rfl (gD D_X12_lot_0 34 rfl) rfl ?_
    obtain ⟨a66, rfl, hw⟩ := hw
    obtain ⟨h67, hw⟩ := hw
    refine v_iast X 0 rfl (by decide) (Or.inl rfl) h67 (gD D_X12_lot_0 35 rfl) (fun s68 es68 => ?_)
    replace hw := hw s68 es68
    refine v_aload_n X 0 rfl (gD D_X12_lot_0 36 rfl) rfl ?_
    refine v_dup X (gD D_X12_lot_0 37 rfl) (rf_cat _) ?_
    refine v_getI X RX12 TX12 65 13 12 (by decide) rfl gin12 15 1215 RX12 (Or.inl rfl) 2 rfl rfl (by decide) lk_fRX12_187 (gD D_X12_lot_0 38 rfl) ?_
    refine v_iconst X 1 (gD D_X12_lot_0 39 rfl) (by decide) ?_
    refine v_iadd X (gD D_X12_lot_0 40 rfl) ?_
    refine v_putI X RX12 TX12 65 13 12 (by decide) rfl gin12 15 1215 tyX12 tyX12_ok nmX12 RX12 (Or.inl rfl) 2 rfl .int (int_fit _) rfl (by decide) (Or.inl rfl) lk_fRX12_187 rfl rfl (gD D_X12_lot_0 41 rfl) (fun s69 es69 => ?_)
    replace hw := hw s69 es69
    refine v_aload_n X 0 rfl (gD D_X12_lot_0 42 rfl) rfl ?_
    refine v_getI X RX12 TX12 65 13 12 (by decide) rfl gin12 15 1215 RX12 (Or.inl rfl) 2 rfl rfl (by decide) lk_fRX12_187 (gD D_X12_lot_0 43 rfl) ?_
    refine v_iconst X 1 (gD D_X12_lot_0 44 rfl) (by decide) ?_
    refine v_isub X (gD D_X12_lot_0 45 rfl) ?_
    exact v_iret X hr hw (gD D_X12_lot_0 46 rfl)
  · replace hw := hw.2 c60
    refine v_iconst X 0 (gD D_X12_lot_0 22 rfl) (by decide) ?_
    exact v_iret X hr hw (gD D_X12_lot_0 23 rfl)
set_option maxRecDepth 100000 in
set_option maxHeartbeats 4000000 in
theorem c_X12_lot {l : Launch} {G : GX} (htr : l.stackTraces = false) {σ : St} {a0 : Nat} {x1 : Int32} {x2 : Int32} {Q : Int32 → St → Prop} (ht : tvOk σ [(some a0, 13)]) (hw : w_X12_lot a0 x1 x2 σ Q) : MI l G 2 σ yX12_lot cX12_lot 3 (some .int) 2 0 0 [va_rf (some a0), .int x1, .int x2] Q := by
  unfold w_X12_lot at hw
  refine m_start RX12 (by decide) htr ht (Nat.le_of_ble_eq_true rfl) rfl (lv := [(0, va_rf (some a0)), (1, .int x1), (2, .int x2)]) (d := 2) (fun p e s m args below meth c X hr hin => ?_)
  refine v_aload_n X 0 rfl (gD D_X12_lot_0 0 rfl) rfl ?_
  refine v_iload_n X 1 rfl (gD D_X12_lot_0 1 rfl) rfl ?_
  refine v_callSi X (As := [.int x1]) (rest := [va_rf (some a0)]) (nA := 1) 0 0 0 0 (fun ht => c_X12_isItem htr (ht.sub [] rfl) hw) (Or.inl rfl) lk_sRX12_226 (by decide +kernel) rfl rfl (by simp [rf_cat, ct_i]) (by decide) (by decide) rfl rfl (gD D_X12_lot_0 2 rfl) (fun x51 s52 hq _ _ => ?_)
  replace hw := hq
  clear hq
  refine v_if_ne X 12 (gD D_X12_lot_0 3 rfl) (by decide) (fun c53 => ?_) (fun c53 => ?_)
  · replace hw := hw.1 c53
    refine v_iload_n X 2 rfl (gD D_X12_lot_0 6 rfl) rfl ?_
    refine v_iconst X 0 (gD D_X12_lot_0 7 rfl) (by decide) ?_
    refine v_sipush X 9999 (gD D_X12_lot_0 8 rfl) (by decide) ?_
    refine v_callSi X (As := [.int x2, .int 0, .int 9999]) (rest := [va_rf (some a0)]) (nA := 3) 0 0 0 0 (fun ht => c_X12_isIn htr (ht.sub [] rfl) hw) (Or.inl rfl) lk_sRX12_183 (by decide +kernel) rfl rfl (by simp [rf_cat, ct_i]) (by decide) (by decide) rfl rfl (gD D_X12_lot_0 9 rfl) (fun x54 s55 hq _ _ => ?_)
    replace hw := hq
    clear hq
    refine v_if_ne X 27 (gD D_X12_lot_0 10 rfl) (by decide) (fun c56 => ?_) (fun c56 => ?_)
    · replace hw := hw.1 c56
      refine v_aload_n X 0 rfl (gD D_X12_lot_0 13 rfl) rfl ?_
      refine v_getI X RX12 TX12 65 13 12 (by decide) rfl gin12 15 1215 RX12 (Or.inl rfl) 0 rfl rfl (by decide) lk_fRX12_187 (gD D_X12_lot_0 14 rfl) ?_
      refine v_bipush X 12 (gD D_X12_lot_0 15 rfl) (by decide) ?_
      refine v_icmp_ne X 40 (gD D_X12_lot_0 16 rfl) (by decide) (fun c57 => ?_) (fun c57 => ?_)
      · replace hw := hw.1 c57
        refine v_iconst X 0 (gD D_X12_lot_0 19 rfl) (by decide) ?_
        exact v_sub [0, 0] [0, 1, 2] rfl rfl (t_X12_lot_41 X hr hin htr  a0 x1 x2 a0 0 s55 hw)
      · replace hw := hw.2 c57
        refine v_iconst X 3 (gD D_X12_lot_0 17 rfl) (by decide) ?_
        refine v_goto X 41 (gD D_X12_lot_0 18 rfl) (by decide) ?_
        exact v_sub [0, 0] [0, 1, 2] rfl rfl (t_X12_lot_41 X hr hin htr  a0 x1 x2 a0 3 s55 hw)
    · replace hw := hw.2 c56
      refine v_iconst X 2 (gD D_X12_lot_0 11 rfl) (by decide) ?_
      refine v_goto X 41 (gD D_X12_lot_0 12 rfl) (by decide) ?_
      exact v_sub [0, 0] [0, 1, 2] rfl rfl (t_X12_lot_41 X hr hin htr  a0 x1 x2 a0 2 s55 hw)
  · replace hw := hw.2 c53
    refine v_iconst X 1 (gD D_X12_lot_0 4 rfl) (by decide) ?_
    refine v_goto X 41 (gD D_X12_lot_0 5 rfl) (by decide) ?_
    exact v_sub [0, 0] [0, 1, 2] rfl rfl (t_X12_lot_41 X hr hin htr  a0 x1 x2 a0 1 s52 hw)
set_option maxRecDepth 100000 in
set_option maxHeartbeats 4000000 in
theorem t_X12_notice_37 {p : Program} {l : Launch} {e : Env} {s : State} {m : MethodId} {args : Array Value} {below : List Frame} {meth : Method} {c : Code} {G : GX} {σ0 : St} {mc ms : Nat} {Q : Int32 → St → Prop} (X : VC p l (rmD 2 mc ms) s m args meth c G 2 mc ms 3 RX12 cX12_notice) (hr : meth.sig.returnType = (some .int)) (hin : meth.name = yX12_notice.name) (htr : l.stackTraces = false) : ∀ (a0 : Nat) (x1 : Int32) (x2 : Int32) (as0 : Nat) (xs1 : Int32) (σ : St), w_X12_notice_37 Q  a0 x1 x2 as0 xs1 σ → V p l e (rmD 2 mc ms) s m args below meth c (MQ below (va_Qi Q (gB G 2 σ0) (GA G)) args s mc ms (GA G)) G 2 σ0 mc ms 3 σ 0 0 [(some a0, 13), (some as0, 13)] 37 [(0, va_rf (some a0)), (1, .int x1), (2, .int x2)] [.int xs1, va_rf (some as0)] := by
  intro a0 x1 x2 as0 xs1 σ hw
  unfold w_X12_notice_37 at hw
  refine v_callVi X (As := [.int xs1]) (rest := []) (nA := 1) 0 0 0 0 (fun ht => c_X12_holds htr (ht.sub [1] rfl) hw) (Or.inl rfl) 1 (κ := 13) rfl (by decide) (rfl : gCl[12]? = some (RX12, TX12, 65)) lk_vRX12_223 (by decide +kernel) rfl rfl (by decide) (by decide) (by decide) rfl rfl (gD D_X12_notice_0 18 rfl) (fun x58 s59 hq _ _ => ?_)
  replace hw := hq
  clear hq
  refine v_if_ne X 45 (gD D_X12_notice_0 19 rfl) (by decide) (fun c60 => ?_) (fun c60 => ?_)
  · replace hw := hw.1 c60
    refine v_aload_n X 0 rfl (gD D_X12_notice_0 22 rfl) rfl ?_
    refine v_getR X RX12 TX12 65 13 12 (by decide) rfl gin12 23 1223 RX12 (Or.inl rfl) 0 21 rfl rfl rfl (by decide) lk_fRX12_62 (gD D_X12_notice_0 23 rfl) (fun o61 eo61 => ?_)
    replace hw := hw o61 eo61
    refine v_aload_n X 0 rfl (gD D_X12_notice_0 24 rfl) rfl ?_
    refine v_getI X RX12 TX12 65 13 12 (by decide) rfl gin12 22 1222 RX12 (Or.inl rfl) 1 rfl rfl (by decide) lk_fRX12_190 (gD D_X12_notice_0 25 rfl) ?_
    refine v_iload_n X 1 rfl (gD D_X12_notice_0 26 rfl) rfl ?_
    obtain ⟨a62, rfl, hw⟩ := hw
    obtain ⟨h63, hw⟩ := hw
    refine v_iast X 0 rfl (by decide) (Or.inl rfl) h63 (gD D_X12_notice_0 27 rfl) (fun s64 es64 => ?_)
    replace hw := hw s64 es64
    refine v_aload_n X 0 rfl (gD D_X12_notice_0 28 rfl) rfl ?_
    refine v_getR X RX12 TX12 65 13 12 (by decide) rfl gin12 24 1224 RX12 (Or.inl rfl) 1 21 rfl rfl rfl (by decide) lk_fRX12_65 (gD D_X12_notice_0 29 rfl) (fun o65 eo65 => ?_)
    replace hw := hw o65 eo65
    refine v_aload_n X 0 rfl (gD D_X12_notice_0 30 rfl) rfl ?_
    refine v_getI X RX12 TX12 65 13 12 (by decide) rfl gin12 22 1222 RX12 (Or.inl rfl) 2 rfl rfl (by decide) lk_fRX12_190 (gD D_X12_notice_0 31 rfl) ?_
    refine v_iload_n X 2 rfl (gD D_X12_notice_0 32 rfl) rfl ?_
    obtain ⟨a66, rfl, hw⟩ := hw
    obtain ⟨h67, hw⟩ := hw
    refine v_iast X 0 rfl (by decide) (Or.inl rfl) h67 (gD D_X12_notice_0 33 rfl) (fun s68 es68 => ?_)
    replace hw := hw s68 es68
    refine v_aload_n X 0 rfl (gD D_X12_notice_0 34 rfl) rfl ?_
    refine v_dup X (gD D_X12_notice_0 35 rfl) (rf_cat _) ?_
    refine v_getI X RX12 TX12 65 13 12 (by decide) rfl gin12 22 1222 RX12 (Or.inl rfl) 2 rfl rfl (by decide) lk_fRX12_190 (gD D_X12_notice_0 36 rfl) ?_
    refine v_iconst X 1 (gD D_X12_notice_0 37 rfl) (by decide) ?_
    refine v_iadd X (gD D_X12_notice_0 38 rfl) ?_
    refine v_putI X RX12 TX12 65 13 12 (by decide) rfl gin12 22 1222 tyX12 tyX12_ok nmX12 RX12 (Or.inl rfl) 2 rfl .int (int_fit _) rfl (by decide) (Or.inl rfl) lk_fRX12_190 rfl rfl (gD D_X12_notice_0 39 rfl) (fun s69 es69 => ?_)
    replace hw := hw s69 es69
    refine v_aload_n X 0 rfl (gD D_X12_notice_0 40 rfl) rfl ?_
    refine v_getI X RX12 TX12 65 13 12 (by decide) rfl gin12 22 1222 RX12 (Or.inl rfl) 2 rfl rfl (by decide) lk_fRX12_190 (gD D_X12_notice_0 41 rfl) ?_
    refine v_iconst X 1 (gD D_X12_notice_0 42 rfl) (by decide) ?_
    refine v_isub X (gD D_X12_notice_0 43 rfl) ?_
    exact v_iret X hr hw (gD D_X12_notice_0 44 rfl)
  · replace hw := hw.2 c60
    refine v_iconst X 0 (gD D_X12_notice_0 20 rfl) (by decide) ?_
    exact v_iret X hr hw (gD D_X12_notice_0 21 rfl)
set_option maxRecDepth 100000 in
set_option maxHeartbeats 4000000 in
theorem c_X12_notice {l : Launch} {G : GX} (htr : l.stackTraces = false) {σ : St} {a0 : Nat} {x1 : Int32} {x2 : Int32} {Q : Int32 → St → Prop} (ht : tvOk σ [(some a0, 13)]) (hw : w_X12_notice a0 x1 x2 σ Q) : MI l G 2 σ yX12_notice cX12_notice 3 (some .int) 2 0 0 [va_rf (some a0), .int x1, .int x2] Q := by
  unfold w_X12_notice at hw
  refine m_start RX12 (by decide) htr ht (Nat.le_of_ble_eq_true rfl) rfl (lv := [(0, va_rf (some a0)), (1, .int x1), (2, .int x2)]) (d := 2) (fun p e s m args below meth c X hr hin => ?_)
  refine v_aload_n X 0 rfl (gD D_X12_notice_0 0 rfl) rfl ?_
  refine v_iload_n X 1 rfl (gD D_X12_notice_0 1 rfl) rfl ?_
  refine v_callSi X (As := [.int x1]) (rest := [va_rf (some a0)]) (nA := 1) 0 0 0 0 (fun ht => c_X12_isItem htr (ht.sub [] rfl) hw) (Or.inl rfl) lk_sRX12_226 (by decide +kernel) rfl rfl (by simp [rf_cat, ct_i]) (by decide) (by decide) rfl rfl (gD D_X12_notice_0 2 rfl) (fun x51 s52 hq _ _ => ?_)
  replace hw := hq
  clear hq
  refine v_if_ne X 12 (gD D_X12_notice_0 3 rfl) (by decide) (fun c53 => ?_) (fun c53 => ?_)
  · replace hw := hw.1 c53
    refine v_iload_n X 2 rfl (gD D_X12_notice_0 6 rfl) rfl ?_
    refine v_callSi X (As := [.int x2]) (rest := [va_rf (some a0)]) (nA := 1) 0 0 0 0 (fun ht => c_X12_arePieces htr (ht.sub [] rfl) hw) (Or.inl rfl) lk_sRX12_244 (by decide +kernel) rfl rfl (by simp [rf_cat, ct_i]) (by decide) (by decide) rfl rfl (gD D_X12_notice_0 7 rfl) (fun x54 s55 hq _ _ => ?_)
    replace hw := hq
    clear hq
    refine v_if_ne X 23 (gD D_X12_notice_0 8 rfl) (by decide) (fun c56 => ?_) (fun c56 => ?_)
    · replace hw := hw.1 c56
      refine v_aload_n X 0 rfl (gD D_X12_notice_0 11 rfl) rfl ?_
      refine v_getI X RX12 TX12 65 13 12 (by decide) rfl gin12 22 1222 RX12 (Or.inl rfl) 0 rfl rfl (by decide) lk_fRX12_190 (gD D_X12_notice_0 12 rfl) ?_
      refine v_bipush X 8 (gD D_X12_notice_0 13 rfl) (by decide) ?_
      refine v_icmp_ne X 36 (gD D_X12_notice_0 14 rfl) (by decide) (fun c57 => ?_) (fun c57 => ?_)
      · replace hw := hw.1 c57
        refine v_iconst X 0 (gD D_X12_notice_0 17 rfl) (by decide) ?_
        exact v_sub [0, 0] [0, 1, 2] rfl rfl (t_X12_notice_37 X hr hin htr  a0 x1 x2 a0 0 s55 hw)
      · replace hw := hw.2 c57
        refine v_iconst X 3 (gD D_X12_notice_0 15 rfl) (by decide) ?_
        refine v_goto X 37 (gD D_X12_notice_0 16 rfl) (by decide) ?_
        exact v_sub [0, 0] [0, 1, 2] rfl rfl (t_X12_notice_37 X hr hin htr  a0 x1 x2 a0 3 s55 hw)
    · replace hw := hw.2 c56
      refine v_iconst X 2 (gD D_X12_notice_0 9 rfl) (by decide) ?_
      refine v_goto X 37 (gD D_X12_notice_0 10 rfl) (by decide) ?_
      exact v_sub [0, 0] [0, 1, 2] rfl rfl (t_X12_notice_37 X hr hin htr  a0 x1 x2 a0 2 s55 hw)
  · replace hw := hw.2 c53
    refine v_iconst X 1 (gD D_X12_notice_0 4 rfl) (by decide) ?_
    refine v_goto X 37 (gD D_X12_notice_0 5 rfl) (by decide) ?_
    exact v_sub [0, 0] [0, 1, 2] rfl rfl (t_X12_notice_37 X hr hin htr  a0 x1 x2 a0 1 s52 hw)
set_option maxRecDepth 100000 in
set_option maxHeartbeats 4000000 in
theorem t_X12_others_14 {p : Program} {l : Launch} {e : Env} {s : State} {m : MethodId} {args : Array Value} {below : List Frame} {meth : Method} {c : Code} {G : GX} {σ0 : St} {mc ms : Nat} {Q : Int32 → St → Prop} (X : VC p l (rmD 2 mc ms) s m args meth c G 2 mc ms 2 RX12 cX12_others) (hr : meth.sig.returnType = (some .int)) (hin : meth.name = yX12_others.name) (htr : l.stackTraces = false) : ∀ (a0 : Nat) (x1 : Int32) (as0 : Nat) (xs1 : Int32) (σ : St), w_X12_others_14 Q  a0 x1 as0 xs1 σ → V p l e (rmD 2 mc ms) s m args below meth c (MQ below (va_Qi Q (gB G 2 σ0) (GA G)) args s mc ms (GA G)) G 2 σ0 mc ms 2 σ 0 0 [(some a0, 13), (some as0, 13)] 14 [(0, va_rf (some a0)), (1, .int x1)] [.int xs1, va_rf (some as0)] := by
  intro a0 x1 as0 xs1 σ hw
  unfold w_X12_others_14 at hw
  refine v_callVi X (As := [.int xs1]) (rest := []) (nA := 1) 0 0 0 0 (fun ht => c_X12_holds htr (ht.sub [1] rfl) hw) (Or.inl rfl) 1 (κ := 13) rfl (by decide) (rfl : gCl[12]? = some (RX12, TX12, 65)) lk_vRX12_223 (by decide +kernel) rfl rfl (by decide) (by decide) (by decide) rfl rfl (gD D_X12_others_0 8 rfl) (fun x54 s55 hq _ _ => ?_)
  replace hw := hq
  clear hq
  refine v_if_eq X 29 (gD D_X12_others_0 9 rfl) (by decide) (fun c56 => ?_) (fun c56 => ?_)
  · replace hw := hw.1 c56
    refine v_iconst X 0 (gD D_X12_others_0 15 rfl) (by decide) ?_
    exact v_iret X hr hw (gD D_X12_others_0 16 rfl)
  · replace hw := hw.2 c56
    refine v_aload_n X 0 rfl (gD D_X12_others_0 10 rfl) rfl ?_
    refine v_iload_n X 1 rfl (gD D_X12_others_0 11 rfl) rfl ?_
    refine v_iconst X 0 (gD D_X12_others_0 12 rfl) (by decide) ?_
    refine v_callVi X (As := [.int x1, .int 0]) (rest := []) (nA := 2) 0 0 0 0 (fun ht => c_X12_cameOf htr (ht.sub [0] rfl) hw) (Or.inl rfl) 0 (κ := 13) rfl (by decide) (rfl : gCl[12]? = some (RX12, TX12, 65)) lk_vRX12_257 (by decide +kernel) rfl rfl (by decide) (by decide) (by decide) rfl rfl (gD D_X12_others_0 13 rfl) (fun x57 s58 hq _ _ => ?_)
    replace hw := hq
    clear hq
    refine v_goto X 30 (gD D_X12_others_0 14 rfl) (by decide) ?_
    exact v_iret X hr hw (gD D_X12_others_0 16 rfl)
set_option maxRecDepth 100000 in
set_option maxHeartbeats 4000000 in
theorem c_X12_others {l : Launch} {G : GX} (htr : l.stackTraces = false) {σ : St} {a0 : Nat} {x1 : Int32} {Q : Int32 → St → Prop} (ht : tvOk σ [(some a0, 13)]) (hw : w_X12_others a0 x1 σ Q) : MI l G 2 σ yX12_others cX12_others 2 (some .int) 2 0 0 [va_rf (some a0), .int x1] Q := by
  unfold w_X12_others at hw
  refine m_start RX12 (by decide) htr ht (Nat.le_of_ble_eq_true rfl) rfl (lv := [(0, va_rf (some a0)), (1, .int x1)]) (d := 2) (fun p e s m args below meth c X hr hin => ?_)
  refine v_aload_n X 0 rfl (gD D_X12_others_0 0 rfl) rfl ?_
  refine v_aload_n X 0 rfl (gD D_X12_others_0 1 rfl) rfl ?_
  refine v_iload_n X 1 rfl (gD D_X12_others_0 2 rfl) rfl ?_
  refine v_callVi X (As := [.int x1]) (rest := [va_rf (some a0)]) (nA := 1) 0 0 0 0 (fun ht => c_X12_isNotice htr (ht.sub [0] rfl) hw) (Or.inl rfl) 0 (κ := 13) rfl (by decide) (rfl : gCl[12]? = some (RX12, TX12, 65)) lk_vRX12_247 (by decide +kernel) rfl rfl (by simp [rf_cat, ct_i]) (by decide) (by decide) rfl rfl (gD D_X12_others_0 3 rfl) (fun x51 s52 hq _ _ => ?_)
  replace hw := hq
  clear hq
  refine v_if_eq X 13 (gD D_X12_others_0 4 rfl) (by decide) (fun c53 => ?_) (fun c53 => ?_)
  · replace hw := hw.1 c53
    refine v_iconst X 1 (gD D_X12_others_0 7 rfl) (by decide) ?_
    exact v_sub [0, 0] [0, 1] rfl rfl (t_X12_others_14 X hr hin htr  a0 x1 a0 1 s52 hw)
  · replace hw := hw.2 c53
    refine v_iconst X 0 (gD D_X12_others_0 5 rfl) (by decide) ?_
    refine v_goto X 14 (gD D_X12_others_0 6 rfl) (by decide) ?_
    exact v_sub [0, 0] [0, 1] rfl rfl (t_X12_others_14 X hr hin htr  a0 x1 a0 0 s52 hw)
set_option maxRecDepth 100000 in
set_option maxHeartbeats 4000000 in
theorem t_X12_recall_145 {p : Program} {l : Launch} {e : Env} {s : State} {m : MethodId} {args : Array Value} {below : List Frame} {meth : Method} {c : Code} {G : GX} {σ0 : St} {mc ms : Nat} {Q : Int32 → St → Prop} (X : VC p l (rmD 2 mc ms) s m args meth c G 2 mc ms 5 RX12 cX12_recall) (hr : meth.sig.returnType = (some .int)) (hin : meth.name = yX12_recall.name) (htr : l.stackTraces = false) : ∀ (f : Nat) (a0 : Nat) (x1 : Int32) (x3 : Int32) (x4 : Int32) (σ : St), w_X12_recall_145 Q  f a0 x1 x3 x4 σ → V p l e (rmD 2 mc ms) s m args below meth c (MQ below (va_Qi Q (gB G 2 σ0) (GA G)) args s mc ms (GA G)) G 2 σ0 mc ms 5 σ 0 0 [(some a0, 13)] 145 [(0, va_rf (some a0)), (1, .int x1), (3, .int x3), (4, .int x4)] [] := by
  intro f
  induction f with
  | zero => intro a0 x1 x3 x4 σ hw; exact hw.elim
  | succ f ih =>
    intro a0 x1 x3 x4 σ hw
    unfold w_X12_recall_145 at hw
    refine v_iload X 3 rfl (gD D_X12_recall_0 84 rfl) ?_
    refine v_aload_n X 0 rfl (gD D_X12_recall_0 85 rfl) rfl ?_
    refine v_getI X RX12 TX12 65 13 12 (by decide) rfl gin12 27 1227 RX12 (Or.inl rfl) 0 rfl rfl (by decide) lk_fRX12_193 (gD D_X12_recall_0 86 rfl) ?_
    refine v_icmp_ge X 175 (gD D_X12_recall_0 87 rfl) (by decide) (fun c69 => ?_) (fun c69 => ?_)
    · replace hw := hw.1 c69
      refine v_iload_n X 2 rfl (gD D_X12_recall_1 1 rfl) rfl ?_
      exact v_iret X hr hw (gD D_X12_recall_1 2 rfl)
    · replace hw := hw.2 c69
      refine v_iload_n X 2 rfl (gD D_X12_recall_0 88 rfl) rfl ?_
      refine v_aload_n X 0 rfl (gD D_X12_recall_0 89 rfl) rfl ?_
      refine v_getR X RX12 TX12 65 13 12 (by decide) rfl gin12 33 1233 RX12 (Or.inl rfl) 0 21 rfl rfl rfl (by decide) lk_fRX12_89 (gD D_X12_recall_0 90 rfl) (fun o70 eo70 => ?_)
      replace hw := hw o70 eo70
      refine v_bipush X 12 (gD D_X12_recall_0 91 rfl) (by decide) ?_
      refine v_iload X 3 rfl (gD D_X12_recall_0 92 rfl) ?_
      refine v_imul X (gD D_X12_recall_0 93 rfl) ?_
      refine v_iload_n X 1 rfl (gD D_X12_recall_0 94 rfl) rfl ?_
      refine v_iadd X (gD D_X12_recall_0 95 rfl) ?_
      obtain ⟨a71, rfl, hw⟩ := hw
      obtain ⟨h72, hw⟩ := hw
      refine v_iald X 0 rfl (by decide) h72 (gD D_X12_recall_0 96 rfl) ?_
      refine v_iadd X (gD D_X12_recall_0 97 rfl) ?_
      refine v_topi (fun x73 ex73 => ?_)
      replace hw := hw x73 ex73
      refine v_istore_n X [(3, .int x73), (0, va_rf (some a0)), (1, .int x1), (4, .int x4)] (gD D_X12_recall_0 98 rfl) rfl (by decide) rfl ?_
      refine v_iinc X (x4 + 1) 3 rfl [(4, .int (x4 + 1)), (3, .int x73), (0, va_rf (some a0)), (1, .int x1)] (gD D_X12_recall_0 99 rfl) rfl (by decide) rfl ?_
      refine v_goto X 145 (gD D_X12_recall_1 0 rfl) (by decide) ?_
      exact v_sub [1] [2, 3, 1, 0] rfl rfl (ih a0 x1 x73 (x4 + 1) σ hw)
set_option maxRecDepth 100000 in
set_option maxHeartbeats 4000000 in
theorem t_X12_recall_88 {p : Program} {l : Launch} {e : Env} {s : State} {m : MethodId} {args : Array Value} {below : List Frame} {meth : Method} {c : Code} {G : GX} {σ0 : St} {mc ms : Nat} {Q : Int32 → St → Prop} (X : VC p l (rmD 2 mc ms) s m args meth c G 2 mc ms 5 RX12 cX12_recall) (hr : meth.sig.returnType = (some .int)) (hin : meth.name = yX12_recall.name) (htr : l.stackTraces = false) : ∀ (f : Nat) (a0 : Nat) (x1 : Int32) (x3 : Int32) (σ : St), w_X12_recall_88 Q  f a0 x1 x3 σ → V p l e (rmD 2 mc ms) s m args below meth c (MQ below (va_Qi Q (gB G 2 σ0) (GA G)) args s mc ms (GA G)) G 2 σ0 mc ms 5 σ 0 0 [(some a0, 13)] 88 [(0, va_rf (some a0)), (1, .int x1), (3, .int x3)] [] := by
  intro f
  induction f with
  | zero => intro a0 x1 x3 σ hw; exact hw.elim
  | succ f ih =>
    intro a0 x1 x3 σ hw
    unfold w_X12_recall_88 at hw
    refine v_iload_n X 2 rfl (gD D_X12_recall_0 52 rfl) rfl ?_
    refine v_aload_n X 0 rfl (gD D_X12_recall_0 53 rfl) rfl ?_
    refine v_getI X RX12 TX12 65 13 12 (by decide) rfl gin12 45 1245 RX12 (Or.inl rfl) 0 rfl rfl (by decide) lk_fRX12_196 (gD D_X12_recall_0 54 rfl) ?_
    refine v_icmp_ge X 136 (gD D_X12_recall_0 55 rfl) (by decide) (fun c66 => ?_) (fun c66 => ?_)
    · replace hw := hw.1 c66
      refine v_aload_n X 0 rfl (gD D_X12_recall_0 78 rfl) rfl ?_
      refine v_callVv X (As := []) (rest := []) (nA := 0) 0 0 0 0 (fun ht => c_X12_tidies htr (ht.sub [0] rfl) hw) (Or.inl rfl) 0 (κ := 13) rfl (by decide) (rfl : gCl[12]? = some (RX12, TX12, 65)) lk_vRX12_341 (by decide +kernel) rfl rfl (by decide) (by decide) (by decide) rfl rfl (gD D_X12_recall_0 79 rfl) (fun s68 hq _ _ => ?_)
      replace hw := hq
      clear hq
      refine v_iconst X 0 (gD D_X12_recall_0 80 rfl) (by decide) ?_
      refine v_istore_n X [(3, .int 0), (0, va_rf (some a0)), (1, .int x1)] (gD D_X12_recall_0 81 rfl) rfl (by decide) rfl ?_
      refine v_iconst X 0 (gD D_X12_recall_0 82 rfl) (by decide) ?_
      refine v_istore X [(4, .int 0), (3, .int 0), (0, va_rf (some a0)), (1, .int x1)] (gD D_X12_recall_0 83 rfl) (by decide) rfl ?_
      obtain ⟨f74, hw⟩ := hw
      exact v_sub [0] [2, 3, 1, 0] rfl rfl (t_X12_recall_145 X hr hin htr  f74 a0 x1 0 0 s68 hw)
    · replace hw := hw.2 c66
      refine v_aload_n X 0 rfl (gD D_X12_recall_0 56 rfl) rfl ?_
      refine v_iload_n X 2 rfl (gD D_X12_recall_0 57 rfl) rfl ?_
      refine v_callVi X (As := [.int x3]) (rest := []) (nA := 1) 0 0 0 0 (fun ht => c_X12_isOn htr (ht.sub [0] rfl) hw) (Or.inl rfl) 0 (κ := 13) rfl (by decide) (rfl : gCl[12]? = some (RX12, TX12, 65)) lk_vRX12_199 (by decide +kernel) rfl rfl (by decide) (by decide) (by decide) rfl rfl (gD D_X12_recall_0 58 rfl) (fun x75 s76 hq _ _ => ?_)
      replace hw := hq
      clear hq
      refine v_if_eq X 130 (gD D_X12_recall_0 59 rfl) (by decide) (fun c77 => ?_) (fun c77 => ?_)
      · replace hw := hw.1 c77
        refine v_iinc X (x3 + 1) 2 rfl [(3, .int (x3 + 1)), (0, va_rf (some a0)), (1, .int x1)] (gD D_X12_recall_0 76 rfl) rfl (by decide) rfl ?_
        refine v_goto X 88 (gD D_X12_recall_0 77 rfl) (by decide) ?_
        exact v_sub [0] [1, 2, 0] rfl rfl (ih a0 x1 (x3 + 1) s76 hw)
      · replace hw := hw.2 c77
        refine v_aload_n X 0 rfl (gD D_X12_recall_0 60 rfl) rfl ?_
        refine v_getR X RX12 TX12 65 13 12 (by decide) rfl gin12 46 1246 RX12 (Or.inl rfl) 0 21 rfl rfl rfl (by decide) lk_fRX12_122 (gD D_X12_recall_0 61 rfl) (fun o78 eo78 => ?_)
        replace hw := hw o78 eo78
        refine v_iload_n X 2 rfl (gD D_X12_recall_0 62 rfl) rfl ?_
        obtain ⟨a79, rfl, hw⟩ := hw
        obtain ⟨h80, hw⟩ := hw
        refine v_iald X 0 rfl (by decide) h80 (gD D_X12_recall_0 63 rfl) ?_
        refine v_iconst X 2 (gD D_X12_recall_0 64 rfl) (by decide) ?_
        refine v_icmp_ne X 130 (gD D_X12_recall_0 65 rfl) (by decide) (fun c81 => ?_) (fun c81 => ?_)
        · replace hw := hw.1 c81
          refine v_iinc X (x3 + 1) 2 rfl [(3, .int (x3 + 1)), (0, va_rf (some a0)), (1, .int x1)] (gD D_X12_recall_0 76 rfl) rfl (by decide) rfl ?_
          refine v_goto X 88 (gD D_X12_recall_0 77 rfl) (by decide) ?_
          exact v_sub [1] [1, 2, 0] rfl rfl (ih a0 x1 (x3 + 1) s76 hw)
        · replace hw := hw.2 c81
          refine v_aload_n X 0 rfl (gD D_X12_recall_0 66 rfl) rfl ?_
          refine v_getR X RX12 TX12 65 13 12 (by decide) rfl gin12 47 1247 RX12 (Or.inl rfl) 1 21 rfl rfl rfl (by decide) lk_fRX12_125 (gD D_X12_recall_0 67 rfl) (fun o82 eo82 => ?_)
          replace hw := hw o82 eo82
          refine v_iload_n X 2 rfl (gD D_X12_recall_0 68 rfl) rfl ?_
          obtain ⟨a83, rfl, hw⟩ := hw
          obtain ⟨h84, hw⟩ := hw
          refine v_iald X 0 rfl (by decide) h84 (gD D_X12_recall_0 69 rfl) ?_
          refine v_iload_n X 1 rfl (gD D_X12_recall_0 70 rfl) rfl ?_
          refine v_icmp_ne X 130 (gD D_X12_recall_0 71 rfl) (by decide) (fun c85 => ?_) (fun c85 => ?_)
          · replace hw := hw.1 c85
            refine v_iinc X (x3 + 1) 2 rfl [(3, .int (x3 + 1)), (0, va_rf (some a0)), (1, .int x1)] (gD D_X12_recall_0 76 rfl) rfl (by decide) rfl ?_
            refine v_goto X 88 (gD D_X12_recall_0 77 rfl) (by decide) ?_
            exact v_sub [2] [1, 2, 0] rfl rfl (ih a0 x1 (x3 + 1) s76 hw)
          · replace hw := hw.2 c85
            refine v_aload_n X 0 rfl (gD D_X12_recall_0 72 rfl) rfl ?_
            refine v_iload_n X 2 rfl (gD D_X12_recall_0 73 rfl) rfl ?_
            refine v_iconst X 3 (gD D_X12_recall_0 74 rfl) (by decide) ?_
            refine v_callVv X (As := [.int x3, .int 3]) (rest := []) (nA := 2) 0 0 0 0 (fun ht => c_X12_ends htr (ht.sub [2] rfl) hw) (Or.inl rfl) 2 (κ := 13) rfl (by decide) (rfl : gCl[12]? = some (RX12, TX12, 65)) lk_vRX12_344 (by decide +kernel) rfl rfl (by decide) (by decide) (by decide) rfl rfl (gD D_X12_recall_0 75 rfl) (fun s87 hq _ _ => ?_)
            replace hw := hq
            clear hq
            refine v_iinc X (x3 + 1) 2 rfl [(3, .int (x3 + 1)), (0, va_rf (some a0)), (1, .int x1)] (gD D_X12_recall_0 76 rfl) rfl (by decide) rfl ?_
            refine v_goto X 88 (gD D_X12_recall_0 77 rfl) (by decide) ?_
            exact v_sub [2] [1, 2, 0] rfl rfl (ih a0 x1 (x3 + 1) s87 hw)
set_option maxRecDepth 100000 in
set_option maxHeartbeats 4000000 in
theorem t_X12_recall_79 {p : Program} {l : Launch} {e : Env} {s : State} {m : MethodId} {args : Array Value} {below : List Frame} {meth : Method} {c : Code} {G : GX} {σ0 : St} {mc ms : Nat} {Q : Int32 → St → Prop} (X : VC p l (rmD 2 mc ms) s m args meth c G 2 mc ms 5 RX12 cX12_recall) (hr : meth.sig.returnType = (some .int)) (hin : meth.name = yX12_recall.name) (htr : l.stackTraces = false) {K46 : Nat → Int32 → Int32 → St → Prop} (hK46 : ∀ (a0 : Nat) (x1 : Int32) (x3 : Int32) (σ : St), K46 a0 x1 x3 σ → V p l e (rmD 2 mc ms) s m args below meth c (MQ below (va_Qi Q (gB G 2 σ0) (GA G)) args s mc ms (GA G)) G 2 σ0 mc ms 5 σ 0 0 [(some a0, 13)] 46 [(0, va_rf (some a0)), (1, .int x1), (3, .int x3)] []) : ∀ (a0 : Nat) (x1 : Int32) (x3 : Int32) (os0 : Option Nat) (xs1 : Int32) (xs2 : Int32) (σ : St), w_X12_recall_79 Q K46 a0 x1 x3 os0 xs1 xs2 σ → V p l e (rmD 2 mc ms) s m args below meth c (MQ below (va_Qi Q (gB G 2 σ0) (GA G)) args s mc ms (GA G)) G 2 σ0 mc ms 5 σ 0 0 [(some a0, 13), (os0, 21)] 79 [(0, va_rf (some a0)), (1, .int x1), (3, .int x3)] [.int xs2, .int xs1, va_rf os0] := by
  intro a0 x1 x3 os0 xs1 xs2 σ hw
  unfold w_X12_recall_79 at hw
  obtain ⟨a97, rfl, hw⟩ := hw
  obtain ⟨h98, hw⟩ := hw
  refine v_iast X 1 rfl (by decide) (Or.inl rfl) h98 (gD D_X12_recall_0 47 rfl) (fun s99 es99 => ?_)
  replace hw := hw s99 es99
  refine v_iinc X (x3 + 1) 2 rfl [(3, .int (x3 + 1)), (0, va_rf (some a0)), (1, .int x1)] (gD D_X12_recall_0 48 rfl) rfl (by decide) rfl ?_
  refine v_goto X 46 (gD D_X12_recall_0 49 rfl) (by decide) ?_
  exact v_sub [0] [1, 2, 0] rfl rfl (hK46 a0 x1 (x3 + 1) s99 hw)
set_option maxRecDepth 100000 in
set_option maxHeartbeats 4000000 in
theorem t_X12_recall_46 {p : Program} {l : Launch} {e : Env} {s : State} {m : MethodId} {args : Array Value} {below : List Frame} {meth : Method} {c : Code} {G : GX} {σ0 : St} {mc ms : Nat} {Q : Int32 → St → Prop} (X : VC p l (rmD 2 mc ms) s m args meth c G 2 mc ms 5 RX12 cX12_recall) (hr : meth.sig.returnType = (some .int)) (hin : meth.name = yX12_recall.name) (htr : l.stackTraces = false) : ∀ (f : Nat) (a0 : Nat) (x1 : Int32) (x3 : Int32) (σ : St), w_X12_recall_46 Q  f a0 x1 x3 σ → V p l e (rmD 2 mc ms) s m args below meth c (MQ below (va_Qi Q (gB G 2 σ0) (GA G)) args s mc ms (GA G)) G 2 σ0 mc ms 5 σ 0 0 [(some a0, 13)] 46 [(0, va_rf (some a0)), (1, .int x1), (3, .int x3)] [] := by
  intro f
  induction f with
  | zero => intro a0 x1 x3 σ hw; exact hw.elim
  | succ f ih =>
    intro a0 x1 x3 σ hw
    unfold w_X12_recall_46 at hw
    refine v_iload_n X 2 rfl (gD D_X12_recall_0 28 rfl) rfl ?_
    refine v_aload_n X 0 rfl (gD D_X12_recall_0 29 rfl) rfl ?_
    refine v_getI X RX12 TX12 65 13 12 (by decide) rfl gin12 39 1239 RX12 (Or.inl rfl) 0 rfl rfl (by decide) lk_fRX12_203 (gD D_X12_recall_0 30 rfl) ?_
    refine v_icmp_ge X 86 (gD D_X12_recall_0 31 rfl) (by decide) (fun c65 => ?_) (fun c65 => ?_)
    · replace hw := hw.1 c65
      refine v_iconst X 0 (gD D_X12_recall_0 50 rfl) (by decide) ?_
      refine v_istore_n X [(3, .int 0), (0, va_rf (some a0)), (1, .int x1)] (gD D_X12_recall_0 51 rfl) rfl (by decide) rfl ?_
      obtain ⟨f88, hw⟩ := hw
      exact v_sub [0] [1, 2, 0] rfl rfl (t_X12_recall_88 X hr hin htr  f88 a0 x1 0 σ hw)
    · replace hw := hw.2 c65
      refine v_aload_n X 0 rfl (gD D_X12_recall_0 32 rfl) rfl ?_
      refine v_getR X RX12 TX12 65 13 12 (by decide) rfl gin12 43 1243 RX12 (Or.inl rfl) 0 21 rfl rfl rfl (by decide) lk_fRX12_116 (gD D_X12_recall_0 33 rfl) (fun o89 eo89 => ?_)
      replace hw := hw o89 eo89
      refine v_iload_n X 2 rfl (gD D_X12_recall_0 34 rfl) rfl ?_
      refine v_aload_n X 0 rfl (gD D_X12_recall_0 35 rfl) rfl ?_
      refine v_getR X RX12 TX12 65 13 12 (by decide) rfl gin12 42 1242 RX12 (Or.inl rfl) 1 21 rfl rfl rfl (by decide) lk_fRX12_113 (gD D_X12_recall_0 36 rfl) (fun o90 eo90 => ?_)
      replace hw := hw o90 eo90
      refine v_iload_n X 2 rfl (gD D_X12_recall_0 37 rfl) rfl ?_
      obtain ⟨a91, rfl, hw⟩ := hw
      obtain ⟨h92, hw⟩ := hw
      refine v_iald X 0 rfl (by decide) h92 (gD D_X12_recall_0 38 rfl) ?_
      refine v_iload_n X 1 rfl (gD D_X12_recall_0 39 rfl) rfl ?_
      refine v_icmp_ne X 73 (gD D_X12_recall_0 40 rfl) (by decide) (fun c93 => ?_) (fun c93 => ?_)
      · replace hw := hw.1 c93
        refine v_aload_n X 0 rfl (gD D_X12_recall_0 43 rfl) rfl ?_
        refine v_getR X RX12 TX12 65 13 12 (by decide) rfl gin12 43 1243 RX12 (Or.inl rfl) 2 21 rfl rfl rfl (by decide) lk_fRX12_116 (gD D_X12_recall_0 44 rfl) (fun o94 eo94 => ?_)
        replace hw := hw o94 eo94
        refine v_iload_n X 2 rfl (gD D_X12_recall_0 45 rfl) rfl ?_
        obtain ⟨a95, rfl, hw⟩ := hw
        obtain ⟨h96, hw⟩ := hw
        refine v_iald X 0 rfl (by decide) h96 (gD D_X12_recall_0 46 rfl) ?_
        exact v_sub [3, 2] [0, 1, 2] rfl rfl (t_X12_recall_79 X hr hin htr ih a0 x1 x3 o89 x3 (sA σ a95 x3.toNatClampNeg) σ hw)
      · replace hw := hw.2 c93
        refine v_iconst X 0 (gD D_X12_recall_0 41 rfl) (by decide) ?_
        refine v_goto X 79 (gD D_X12_recall_0 42 rfl) (by decide) ?_
        exact v_sub [2, 1] [0, 1, 2] rfl rfl (t_X12_recall_79 X hr hin htr ih a0 x1 x3 o89 x3 0 σ hw)
set_option maxRecDepth 100000 in
set_option maxHeartbeats 4000000 in
theorem t_X12_recall_29 {p : Program} {l : Launch} {e : Env} {s : State} {m : MethodId} {args : Array Value} {below : List Frame} {meth : Method} {c : Code} {G : GX} {σ0 : St} {mc ms : Nat} {Q : Int32 → St → Prop} (X : VC p l (rmD 2 mc ms) s m args meth c G 2 mc ms 5 RX12 cX12_recall) (hr : meth.sig.returnType = (some .int)) (hin : meth.name = yX12_recall.name) (htr : l.stackTraces = false) : ∀ (a0 : Nat) (x1 : Int32) (as0 : Nat) (xs1 : Int32) (σ : St), w_X12_recall_29 Q  a0 x1 as0 xs1 σ → V p l e (rmD 2 mc ms) s m args below meth c (MQ below (va_Qi Q (gB G 2 σ0) (GA G)) args s mc ms (GA G)) G 2 σ0 mc ms 5 σ 0 0 [(some a0, 13), (some as0, 13)] 29 [(0, va_rf (some a0)), (1, .int x1)] [.int xs1, va_rf (some as0)] := by
  intro a0 x1 as0 xs1 σ hw
  unfold w_X12_recall_29 at hw
  refine v_callVi X (As := [.int xs1]) (rest := []) (nA := 1) 0 0 0 0 (fun ht => c_X12_holds htr (ht.sub [1] rfl) hw) (Or.inl rfl) 1 (κ := 13) rfl (by decide) (rfl : gCl[12]? = some (RX12, TX12, 65)) lk_vRX12_223 (by decide +kernel) rfl rfl (by decide) (by decide) (by decide) rfl rfl (gD D_X12_recall_0 17 rfl) (fun x58 s59 hq _ _ => ?_)
  replace hw := hq
  clear hq
  refine v_if_ne X 37 (gD D_X12_recall_0 18 rfl) (by decide) (fun c60 => ?_) (fun c60 => ?_)
  · replace hw := hw.1 c60
    refine v_aload_n X 0 rfl (gD D_X12_recall_0 21 rfl) rfl ?_
    refine v_getR X RX12 TX12 65 13 12 (by decide) rfl gin12 18 1218 RX12 (Or.inl rfl) 0 22 rfl rfl rfl (by decide) lk_fRX12_50 (gD D_X12_recall_0 22 rfl) (fun o61 eo61 => ?_)
    replace hw := hw o61 eo61
    refine v_iload_n X 1 rfl (gD D_X12_recall_0 23 rfl) rfl ?_
    refine v_iconst X 1 (gD D_X12_recall_0 24 rfl) (by decide) ?_
    obtain ⟨a62, rfl, hw⟩ := hw
    obtain ⟨h63, hw⟩ := hw
    refine v_zast X 0 rfl rfl (Or.inl rfl) h63 (by decide) (gD D_X12_recall_0 25 rfl) (fun s64 es64 => ?_)
    replace hw := hw s64 es64
    refine v_iconst X 0 (gD D_X12_recall_0 26 rfl) (by decide) ?_
    refine v_istore_n X [(3, .int 0), (0, va_rf (some a0)), (1, .int x1)] (gD D_X12_recall_0 27 rfl) rfl (by decide) rfl ?_
    obtain ⟨f100, hw⟩ := hw
    exact v_sub [1] [1, 2, 0] rfl rfl (t_X12_recall_46 X hr hin htr  f100 a0 x1 0 s64 hw)
  · replace hw := hw.2 c60
    refine v_iconst X 0 (gD D_X12_recall_0 19 rfl) (by decide) ?_
    exact v_iret X hr hw (gD D_X12_recall_0 20 rfl)
set_option maxRecDepth 100000 in
set_option maxHeartbeats 4000000 in
theorem c_X12_recall {l : Launch} {G : GX} (htr : l.stackTraces = false) {σ : St} {a0 : Nat} {x1 : Int32} {Q : Int32 → St → Prop} (ht : tvOk σ [(some a0, 13)]) (hw : w_X12_recall a0 x1 σ Q) : MI l G 2 σ yX12_recall cX12_recall 5 (some .int) 2 0 0 [va_rf (some a0), .int x1] Q := by
  unfold w_X12_recall at hw
  refine m_start RX12 (by decide) htr ht (Nat.le_of_ble_eq_true rfl) rfl (lv := [(0, va_rf (some a0)), (1, .int x1)]) (d := 2) (fun p e s m args below meth c X hr hin => ?_)
  refine v_aload_n X 0 rfl (gD D_X12_recall_0 0 rfl) rfl ?_
  refine v_iload_n X 1 rfl (gD D_X12_recall_0 1 rfl) rfl ?_
  refine v_callVi X (As := [.int x1]) (rest := []) (nA := 1) 0 0 0 0 (fun ht => c_X12_isLot htr (ht.sub [0] rfl) hw) (Or.inl rfl) 0 (κ := 13) rfl (by decide) (rfl : gCl[12]? = some (RX12, TX12, 65)) lk_vRX12_232 (by decide +kernel) rfl rfl (by decide) (by decide) (by decide) rfl rfl (gD D_X12_recall_0 2 rfl) (fun x51 s52 hq _ _ => ?_)
  replace hw := hq
  clear hq
  refine v_istore_n X [(2, .int x51), (0, va_rf (some a0)), (1, .int x1)] (gD D_X12_recall_0 3 rfl) rfl (by decide) rfl ?_
  refine v_aload_n X 1 rfl (gD D_X12_recall_0 4 rfl) rfl ?_
  refine v_iload_n X 0 rfl (gD D_X12_recall_0 5 rfl) rfl ?_
  refine v_if_ne X 15 (gD D_X12_recall_0 6 rfl) (by decide) (fun c53 => ?_) (fun c53 => ?_)
  · replace hw := hw.1 c53
    refine v_aload_n X 1 rfl (gD D_X12_recall_0 9 rfl) rfl ?_
    refine v_getR X RX12 TX12 65 13 12 (by decide) rfl gin12 18 1218 RX12 (Or.inl rfl) 0 22 rfl rfl rfl (by decide) lk_fRX12_50 (gD D_X12_recall_0 10 rfl) (fun o54 eo54 => ?_)
    replace hw := hw o54 eo54
    refine v_iload_n X 2 rfl (gD D_X12_recall_0 11 rfl) rfl ?_
    obtain ⟨a55, rfl, hw⟩ := hw
    obtain ⟨h56, hw⟩ := hw
    refine v_zald X 0 rfl rfl h56 (gD D_X12_recall_0 12 rfl) ?_
    refine v_if_eq X 28 (gD D_X12_recall_0 13 rfl) (by decide) (fun c57 => ?_) (fun c57 => ?_)
    · replace hw := hw.1 c57
      refine v_iconst X 0 (gD D_X12_recall_0 16 rfl) (by decide) ?_
      exact v_sub [1, 1] [1, 2] rfl rfl (t_X12_recall_29 X hr hin htr  a0 x1 a0 0 s52 hw)
    · replace hw := hw.2 c57
      refine v_iconst X 2 (gD D_X12_recall_0 14 rfl) (by decide) ?_
      refine v_goto X 29 (gD D_X12_recall_0 15 rfl) (by decide) ?_
      exact v_sub [1, 1] [1, 2] rfl rfl (t_X12_recall_29 X hr hin htr  a0 x1 a0 2 s52 hw)
  · replace hw := hw.2 c53
    refine v_iconst X 1 (gD D_X12_recall_0 7 rfl) (by decide) ?_
    refine v_goto X 29 (gD D_X12_recall_0 8 rfl) (by decide) ?_
    exact v_sub [0, 0] [1, 2] rfl rfl (t_X12_recall_29 X hr hin htr  a0 x1 a0 1 s52 hw)
set_option maxRecDepth 100000 in
set_option maxHeartbeats 4000000 in
theorem t_X12_receive_58 {p : Program} {l : Launch} {e : Env} {s : State} {m : MethodId} {args : Array Value} {below : List Frame} {meth : Method} {c : Code} {G : GX} {σ0 : St} {mc ms : Nat} {Q : Int32 → St → Prop} (X : VC p l (rmD 2 mc ms) s m args meth c G 2 mc ms 5 RX12 cX12_receive) (hr : meth.sig.returnType = (some .int)) (hin : meth.name = yX12_receive.name) (htr : l.stackTraces = false) : ∀ (a0 : Nat) (x1 : Int32) (x2 : Int32) (x3 : Int32) (as0 : Nat) (xs1 : Int32) (σ : St), w_X12_receive_58 Q  a0 x1 x2 x3 as0 xs1 σ → V p l e (rmD 2 mc ms) s m args below meth c (MQ below (va_Qi Q (gB G 2 σ0) (GA G)) args s mc ms (GA G)) G 2 σ0 mc ms 5 σ 0 0 [(some a0, 13), (some as0, 13)] 58 [(0, va_rf (some a0)), (1, .int x1), (2, .int x2), (3, .int x3)] [.int xs1, va_rf (some as0)] := by
  intro a0 x1 x2 x3 as0 xs1 σ hw
  unfold w_X12_receive_58 at hw
  refine v_callVi X (As := [.int xs1]) (rest := []) (nA := 1) 0 0 0 0 (fun ht => c_X12_holds htr (ht.sub [1] rfl) hw) (Or.inl rfl) 1 (κ := 13) rfl (by decide) (rfl : gCl[12]? = some (RX12, TX12, 65)) lk_vRX12_223 (by decide +kernel) rfl rfl (by decide) (by decide) (by decide) rfl rfl (gD D_X12_receive_0 30 rfl) (fun x62 s63 hq _ _ => ?_)
  replace hw := hq
  clear hq
  refine v_if_ne X 66 (gD D_X12_receive_0 31 rfl) (by decide) (fun c64 => ?_) (fun c64 => ?_)
  · replace hw := hw.1 c64
    refine v_aload_n X 0 rfl (gD D_X12_receive_0 34 rfl) rfl ?_
    refine v_getR X RX12 TX12 65 13 12 (by decide) rfl gin12 26 1226 RX12 (Or.inl rfl) 0 21 rfl rfl rfl (by decide) lk_fRX12_71 (gD D_X12_receive_0 35 rfl) (fun o65 eo65 => ?_)
    replace hw := hw o65 eo65
    refine v_bipush X 12 (gD D_X12_receive_0 36 rfl) (by decide) ?_
    refine v_iload_n X 1 rfl (gD D_X12_receive_0 37 rfl) rfl ?_
    refine v_imul X (gD D_X12_receive_0 38 rfl) ?_
    refine v_iload_n X 2 rfl (gD D_X12_receive_0 39 rfl) rfl ?_
    refine v_iadd X (gD D_X12_receive_0 40 rfl) ?_
    refine v_topi (fun x66 ex66 => ?_)
    replace hw := hw x66 ex66
    refine v_dup2 X (gD D_X12_receive_0 41 rfl) rfl (rf_cat _) ?_
    obtain ⟨a67, rfl, hw⟩ := hw
    obtain ⟨h68, hw⟩ := hw
    refine v_iald X 0 rfl (by decide) h68 (gD D_X12_receive_0 42 rfl) ?_
    refine v_iload_n X 3 rfl (gD D_X12_receive_0 43 rfl) rfl ?_
    refine v_iadd X (gD D_X12_receive_0 44 rfl) ?_
    obtain ⟨h69, hw⟩ := hw
    refine v_iast X 0 rfl (by decide) (Or.inl rfl) h69 (gD D_X12_receive_0 45 rfl) (fun s70 es70 => ?_)
    replace hw := hw s70 es70
    refine v_aload_n X 0 rfl (gD D_X12_receive_0 46 rfl) rfl ?_
    refine v_bipush X 18 (gD D_X12_receive_0 47 rfl) (by decide) ?_
    refine v_iload_n X 2 rfl (gD D_X12_receive_0 48 rfl) rfl ?_
    refine v_iload_n X 3 rfl (gD D_X12_receive_0 49 rfl) rfl ?_
    refine v_callVv X (As := [.int 18, .int x2, .int x3]) (rest := []) (nA := 3) 0 0 0 0 (fun ht => c_X12_books htr (ht.sub [1] rfl) hw) (Or.inl rfl) 1 (κ := 13) rfl (by decide) (rfl : gCl[12]? = some (RX12, TX12, 65)) lk_vRX12_250 (by decide +kernel) rfl rfl (by decide) (by decide) (by decide) rfl rfl (gD D_X12_receive_0 50 rfl) (fun s72 hq _ _ => ?_)
    replace hw := hq
    clear hq
    refine v_aload_n X 0 rfl (gD D_X12_receive_0 51 rfl) rfl ?_
    refine v_dup X (gD D_X12_receive_0 52 rfl) (rf_cat _) ?_
    refine v_getI X RX12 TX12 65 13 12 (by decide) rfl gin12 2 1202 RX12 (Or.inl rfl) 1 rfl rfl (by decide) lk_fRX12_254 (gD D_X12_receive_0 53 rfl) ?_
    refine v_iconst X 2 (gD D_X12_receive_0 54 rfl) (by decide) ?_
    refine v_iload_n X 3 rfl (gD D_X12_receive_0 55 rfl) rfl ?_
    refine v_imul X (gD D_X12_receive_0 56 rfl) ?_
    refine v_iadd X (gD D_X12_receive_0 57 rfl) ?_
    refine v_putI X RX12 TX12 65 13 12 (by decide) rfl gin12 2 1202 tyX12 tyX12_ok nmX12 RX12 (Or.inl rfl) 1 rfl .int (int_fit _) rfl (by decide) (Or.inl rfl) lk_fRX12_254 rfl rfl (gD D_X12_receive_0 58 rfl) (fun s73 es73 => ?_)
    replace hw := hw s73 es73
    refine v_aload_n X 0 rfl (gD D_X12_receive_0 59 rfl) rfl ?_
    refine v_getR X RX12 TX12 65 13 12 (by decide) rfl gin12 19 1219 RX12 (Or.inl rfl) 1 21 rfl rfl rfl (by decide) lk_fRX12_53 (gD D_X12_receive_0 60 rfl) (fun o74 eo74 => ?_)
    replace hw := hw o74 eo74
    refine v_sipush X 216 (gD D_X12_receive_0 61 rfl) (by decide) ?_
    refine v_iload_n X 2 rfl (gD D_X12_receive_0 62 rfl) rfl ?_
    refine v_iadd X (gD D_X12_receive_0 63 rfl) ?_
    obtain ⟨a75, rfl, hw⟩ := hw
    obtain ⟨h76, hw⟩ := hw
    refine v_iald X 0 rfl (by decide) h76 (gD D_X12_receive_0 64 rfl) ?_
    exact v_iret X hr hw (gD D_X12_receive_0 65 rfl)
  · replace hw := hw.2 c64
    refine v_iconst X 0 (gD D_X12_receive_0 32 rfl) (by decide) ?_
    exact v_iret X hr hw (gD D_X12_receive_0 33 rfl)
set_option maxRecDepth 100000 in
set_option maxHeartbeats 4000000 in
theorem t_X12_receive_21 {p : Program} {l : Launch} {e : Env} {s : State} {m : MethodId} {args : Array Value} {below : List Frame} {meth : Method} {c : Code} {G : GX} {σ0 : St} {mc ms : Nat} {Q : Int32 → St → Prop} (X : VC p l (rmD 2 mc ms) s m args meth c G 2 mc ms 5 RX12 cX12_receive) (hr : meth.sig.returnType = (some .int)) (hin : meth.name = yX12_receive.name) (htr : l.stackTraces = false) : ∀ (a0 : Nat) (x1 : Int32) (x2 : Int32) (x3 : Int32) (xs0 : Int32) (σ : St), w_X12_receive_21 Q  a0 x1 x2 x3 xs0 σ → V p l e (rmD 2 mc ms) s m args below meth c (MQ below (va_Qi Q (gB G 2 σ0) (GA G)) args s mc ms (GA G)) G 2 σ0 mc ms 5 σ 0 0 [(some a0, 13)] 21 [(0, va_rf (some a0)), (1, .int x1), (2, .int x2), (3, .int x3)] [.int xs0] := by
  intro a0 x1 x2 x3 xs0 σ hw
  unfold w_X12_receive_21 at hw
  refine v_istore X [(4, .int xs0), (0, va_rf (some a0)), (1, .int x1), (2, .int x2), (3, .int x3)] (gD D_X12_receive_0 11 rfl) (by decide) rfl ?_
  refine v_aload_n X 1 rfl (gD D_X12_receive_0 12 rfl) rfl ?_
  refine v_iload X 0 rfl (gD D_X12_receive_0 13 rfl) ?_
  refine v_if_ne X 33 (gD D_X12_receive_0 14 rfl) (by decide) (fun c54 => ?_) (fun c54 => ?_)
  · replace hw := hw.1 c54
    refine v_iload_n X 4 rfl (gD D_X12_receive_0 17 rfl) rfl ?_
    refine v_callSi X (As := [.int x3]) (rest := [va_rf (some a0)]) (nA := 1) 0 0 0 0 (fun ht => c_X12_arePieces htr (ht.sub [] rfl) hw) (Or.inl rfl) lk_sRX12_244 (by decide +kernel) rfl rfl (by simp [rf_cat, ct_i]) (by decide) (by decide) rfl rfl (gD D_X12_receive_0 18 rfl) (fun x55 s56 hq _ _ => ?_)
    replace hw := hq
    clear hq
    refine v_if_ne X 44 (gD D_X12_receive_0 19 rfl) (by decide) (fun c57 => ?_) (fun c57 => ?_)
    · replace hw := hw.1 c57
      refine v_aload_n X 1 rfl (gD D_X12_receive_0 22 rfl) rfl ?_
      refine v_getR X RX12 TX12 65 13 12 (by decide) rfl gin12 25 1225 RX12 (Or.inl rfl) 0 22 rfl rfl rfl (by decide) lk_fRX12_68 (gD D_X12_receive_0 23 rfl) (fun o58 eo58 => ?_)
      replace hw := hw o58 eo58
      refine v_iload_n X 2 rfl (gD D_X12_receive_0 24 rfl) rfl ?_
      obtain ⟨a59, rfl, hw⟩ := hw
      obtain ⟨h60, hw⟩ := hw
      refine v_zald X 0 rfl rfl h60 (gD D_X12_receive_0 25 rfl) ?_
      refine v_if_eq X 57 (gD D_X12_receive_0 26 rfl) (by decide) (fun c61 => ?_) (fun c61 => ?_)
      · replace hw := hw.1 c61
        refine v_iconst X 0 (gD D_X12_receive_0 29 rfl) (by decide) ?_
        exact v_sub [1, 1] [1, 2, 3, 4] rfl rfl (t_X12_receive_58 X hr hin htr  a0 x1 x2 x3 a0 0 s56 hw)
      · replace hw := hw.2 c61
        refine v_iconst X 3 (gD D_X12_receive_0 27 rfl) (by decide) ?_
        refine v_goto X 58 (gD D_X12_receive_0 28 rfl) (by decide) ?_
        exact v_sub [1, 1] [1, 2, 3, 4] rfl rfl (t_X12_receive_58 X hr hin htr  a0 x1 x2 x3 a0 3 s56 hw)
    · replace hw := hw.2 c57
      refine v_iconst X 2 (gD D_X12_receive_0 20 rfl) (by decide) ?_
      refine v_goto X 58 (gD D_X12_receive_0 21 rfl) (by decide) ?_
      exact v_sub [0, 0] [1, 2, 3, 4] rfl rfl (t_X12_receive_58 X hr hin htr  a0 x1 x2 x3 a0 2 s56 hw)
  · replace hw := hw.2 c54
    refine v_iconst X 1 (gD D_X12_receive_0 15 rfl) (by decide) ?_
    refine v_goto X 58 (gD D_X12_receive_0 16 rfl) (by decide) ?_
    exact v_sub [0, 0] [1, 2, 3, 4] rfl rfl (t_X12_receive_58 X hr hin htr  a0 x1 x2 x3 a0 1 σ hw)
set_option maxRecDepth 100000 in
set_option maxHeartbeats 4000000 in
theorem t_X12_receive_20 {p : Program} {l : Launch} {e : Env} {s : State} {m : MethodId} {args : Array Value} {below : List Frame} {meth : Method} {c : Code} {G : GX} {σ0 : St} {mc ms : Nat} {Q : Int32 → St → Prop} (X : VC p l (rmD 2 mc ms) s m args meth c G 2 mc ms 5 RX12 cX12_receive) (hr : meth.sig.returnType = (some .int)) (hin : meth.name = yX12_receive.name) (htr : l.stackTraces = false) : ∀ (a0 : Nat) (x1 : Int32) (x2 : Int32) (x3 : Int32) (σ : St), w_X12_receive_20 Q  a0 x1 x2 x3 σ → V p l e (rmD 2 mc ms) s m args below meth c (MQ below (va_Qi Q (gB G 2 σ0) (GA G)) args s mc ms (GA G)) G 2 σ0 mc ms 5 σ 0 0 [(some a0, 13)] 20 [(0, va_rf (some a0)), (1, .int x1), (2, .int x2), (3, .int x3)] [] := by
  intro a0 x1 x2 x3 σ hw
  unfold w_X12_receive_20 at hw
  refine v_iconst X 0 (gD D_X12_receive_0 10 rfl) (by decide) ?_
  exact v_sub [0] [0, 1, 2, 3] rfl rfl (t_X12_receive_21 X hr hin htr  a0 x1 x2 x3 0 σ hw)
set_option maxRecDepth 100000 in
set_option maxHeartbeats 4000000 in
theorem c_X12_receive {l : Launch} {G : GX} (htr : l.stackTraces = false) {σ : St} {a0 : Nat} {x1 : Int32} {x2 : Int32} {x3 : Int32} {Q : Int32 → St → Prop} (ht : tvOk σ [(some a0, 13)]) (hw : w_X12_receive a0 x1 x2 x3 σ Q) : MI l G 2 σ yX12_receive cX12_receive 5 (some .int) 2 0 0 [va_rf (some a0), .int x1, .int x2, .int x3] Q := by
  unfold w_X12_receive at hw
  refine m_start RX12 (by decide) htr ht (Nat.le_of_ble_eq_true rfl) rfl (lv := [(0, va_rf (some a0)), (1, .int x1), (2, .int x2), (3, .int x3)]) (d := 2) (fun p e s m args below meth c X hr hin => ?_)
  refine v_aload_n X 0 rfl (gD D_X12_receive_0 0 rfl) rfl ?_
  refine v_iload_n X 1 rfl (gD D_X12_receive_0 1 rfl) rfl ?_
  refine v_callVi X (As := [.int x1]) (rest := []) (nA := 1) 0 0 0 0 (fun ht => c_X12_isNotice htr (ht.sub [0] rfl) hw) (Or.inl rfl) 0 (κ := 13) rfl (by decide) (rfl : gCl[12]? = some (RX12, TX12, 65)) lk_vRX12_247 (by decide +kernel) rfl rfl (by decide) (by decide) (by decide) rfl rfl (gD D_X12_receive_0 2 rfl) (fun x51 s52 hq _ _ => ?_)
  replace hw := hq
  clear hq
  refine v_if_eq X 20 (gD D_X12_receive_0 3 rfl) (by decide) (fun c53 => ?_) (fun c53 => ?_)
  · replace hw := hw.1 c53
    exact v_sub [0] [0, 1, 2, 3] rfl rfl (t_X12_receive_20 X hr hin htr  a0 x1 x2 x3 s52 hw)
  · replace hw := hw.2 c53
    refine v_aload_n X 0 rfl (gD D_X12_receive_0 4 rfl) rfl ?_
    refine v_iload_n X 2 rfl (gD D_X12_receive_0 5 rfl) rfl ?_
    refine v_callVi X (As := [.int x2]) (rest := []) (nA := 1) 0 0 0 0 (fun ht => c_X12_isLot htr (ht.sub [0] rfl) hw) (Or.inl rfl) 0 (κ := 13) rfl (by decide) (rfl : gCl[12]? = some (RX12, TX12, 65)) lk_vRX12_232 (by decide +kernel) rfl rfl (by decide) (by decide) (by decide) rfl rfl (gD D_X12_receive_0 6 rfl) (fun x77 s78 hq _ _ => ?_)
    replace hw := hq
    clear hq
    refine v_if_eq X 20 (gD D_X12_receive_0 7 rfl) (by decide) (fun c79 => ?_) (fun c79 => ?_)
    · replace hw := hw.1 c79
      exact v_sub [0] [0, 1, 2, 3] rfl rfl (t_X12_receive_20 X hr hin htr  a0 x1 x2 x3 s78 hw)
    · replace hw := hw.2 c79
      refine v_iconst X 1 (gD D_X12_receive_0 8 rfl) (by decide) ?_
      refine v_goto X 21 (gD D_X12_receive_0 9 rfl) (by decide) ?_
      exact v_sub [0] [0, 1, 2, 3] rfl rfl (t_X12_receive_21 X hr hin htr  a0 x1 x2 x3 1 s78 hw)
set_option maxRecDepth 100000 in
set_option maxHeartbeats 4000000 in
theorem t_X12_received_22 {p : Program} {l : Launch} {e : Env} {s : State} {m : MethodId} {args : Array Value} {below : List Frame} {meth : Method} {c : Code} {G : GX} {σ0 : St} {mc ms : Nat} {Q : Int32 → St → Prop} (X : VC p l (rmD 2 mc ms) s m args meth c G 2 mc ms 3 RX12 cX12_received) (hr : meth.sig.returnType = (some .int)) (hin : meth.name = yX12_received.name) (htr : l.stackTraces = false) : ∀ (a0 : Nat) (x1 : Int32) (x2 : Int32) (as0 : Nat) (xs1 : Int32) (σ : St), w_X12_received_22 Q  a0 x1 x2 as0 xs1 σ → V p l e (rmD 2 mc ms) s m args below meth c (MQ below (va_Qi Q (gB G 2 σ0) (GA G)) args s mc ms (GA G)) G 2 σ0 mc ms 3 σ 0 0 [(some a0, 13), (some as0, 13)] 22 [(0, va_rf (some a0)), (1, .int x1), (2, .int x2)] [.int xs1, va_rf (some as0)] := by
  intro a0 x1 x2 as0 xs1 σ hw
  unfold w_X12_received_22 at hw
  refine v_callVi X (As := [.int xs1]) (rest := []) (nA := 1) 0 0 0 0 (fun ht => c_X12_holds htr (ht.sub [1] rfl) hw) (Or.inl rfl) 1 (κ := 13) rfl (by decide) (rfl : gCl[12]? = some (RX12, TX12, 65)) lk_vRX12_223 (by decide +kernel) rfl rfl (by decide) (by decide) (by decide) rfl rfl (gD D_X12_received_0 12 rfl) (fun x54 s55 hq _ _ => ?_)
  replace hw := hq
  clear hq
  refine v_if_eq X 42 (gD D_X12_received_0 13 rfl) (by decide) (fun c56 => ?_) (fun c56 => ?_)
  · replace hw := hw.1 c56
    refine v_iconst X 0 (gD D_X12_received_0 23 rfl) (by decide) ?_
    exact v_iret X hr hw (gD D_X12_received_0 24 rfl)
  · replace hw := hw.2 c56
    refine v_aload_n X 0 rfl (gD D_X12_received_0 14 rfl) rfl ?_
    refine v_getR X RX12 TX12 65 13 12 (by decide) rfl gin12 26 1226 RX12 (Or.inl rfl) 0 21 rfl rfl rfl (by decide) lk_fRX12_71 (gD D_X12_received_0 15 rfl) (fun o57 eo57 => ?_)
    replace hw := hw o57 eo57
    refine v_bipush X 12 (gD D_X12_received_0 16 rfl) (by decide) ?_
    refine v_iload_n X 1 rfl (gD D_X12_received_0 17 rfl) rfl ?_
    refine v_imul X (gD D_X12_received_0 18 rfl) ?_
    refine v_iload_n X 2 rfl (gD D_X12_received_0 19 rfl) rfl ?_
    refine v_iadd X (gD D_X12_received_0 20 rfl) ?_
    obtain ⟨a58, rfl, hw⟩ := hw
    obtain ⟨h59, hw⟩ := hw
    refine v_iald X 0 rfl (by decide) h59 (gD D_X12_received_0 21 rfl) ?_
    refine v_goto X 43 (gD D_X12_received_0 22 rfl) (by decide) ?_
    exact v_iret X hr hw (gD D_X12_received_0 24 rfl)
set_option maxRecDepth 100000 in
set_option maxHeartbeats 4000000 in
theorem t_X12_received_21 {p : Program} {l : Launch} {e : Env} {s : State} {m : MethodId} {args : Array Value} {below : List Frame} {meth : Method} {c : Code} {G : GX} {σ0 : St} {mc ms : Nat} {Q : Int32 → St → Prop} (X : VC p l (rmD 2 mc ms) s m args meth c G 2 mc ms 3 RX12 cX12_received) (hr : meth.sig.returnType = (some .int)) (hin : meth.name = yX12_received.name) (htr : l.stackTraces = false) : ∀ (a0 : Nat) (x1 : Int32) (x2 : Int32) (as0 : Nat) (σ : St), w_X12_received_21 Q  a0 x1 x2 as0 σ → V p l e (rmD 2 mc ms) s m args below meth c (MQ below (va_Qi Q (gB G 2 σ0) (GA G)) args s mc ms (GA G)) G 2 σ0 mc ms 3 σ 0 0 [(some a0, 13), (some as0, 13)] 21 [(0, va_rf (some a0)), (1, .int x1), (2, .int x2)] [va_rf (some as0)] := by
  intro a0 x1 x2 as0 σ hw
  unfold w_X12_received_21 at hw
  refine v_iconst X 1 (gD D_X12_received_0 11 rfl) (by decide) ?_
  exact v_sub [0, 1] [0, 1, 2] rfl rfl (t_X12_received_22 X hr hin htr  a0 x1 x2 as0 1 σ hw)
set_option maxRecDepth 100000 in
set_option maxHeartbeats 4000000 in
theorem c_X12_received {l : Launch} {G : GX} (htr : l.stackTraces = false) {σ : St} {a0 : Nat} {x1 : Int32} {x2 : Int32} {Q : Int32 → St → Prop} (ht : tvOk σ [(some a0, 13)]) (hw : w_X12_received a0 x1 x2 σ Q) : MI l G 2 σ yX12_received cX12_received 3 (some .int) 2 0 0 [va_rf (some a0), .int x1, .int x2] Q := by
  unfold w_X12_received at hw
  refine m_start RX12 (by decide) htr ht (Nat.le_of_ble_eq_true rfl) rfl (lv := [(0, va_rf (some a0)), (1, .int x1), (2, .int x2)]) (d := 2) (fun p e s m args below meth c X hr hin => ?_)
  refine v_aload_n X 0 rfl (gD D_X12_received_0 0 rfl) rfl ?_
  refine v_aload_n X 0 rfl (gD D_X12_received_0 1 rfl) rfl ?_
  refine v_iload_n X 1 rfl (gD D_X12_received_0 2 rfl) rfl ?_
  refine v_callVi X (As := [.int x1]) (rest := [va_rf (some a0)]) (nA := 1) 0 0 0 0 (fun ht => c_X12_isNotice htr (ht.sub [0] rfl) hw) (Or.inl rfl) 0 (κ := 13) rfl (by decide) (rfl : gCl[12]? = some (RX12, TX12, 65)) lk_vRX12_247 (by decide +kernel) rfl rfl (by simp [rf_cat, ct_i]) (by decide) (by decide) rfl rfl (gD D_X12_received_0 3 rfl) (fun x51 s52 hq _ _ => ?_)
  replace hw := hq
  clear hq
  refine v_if_eq X 21 (gD D_X12_received_0 4 rfl) (by decide) (fun c53 => ?_) (fun c53 => ?_)
  · replace hw := hw.1 c53
    exact v_sub [0, 0] [0, 1, 2] rfl rfl (t_X12_received_21 X hr hin htr  a0 x1 x2 a0 s52 hw)
  · replace hw := hw.2 c53
    refine v_aload_n X 0 rfl (gD D_X12_received_0 5 rfl) rfl ?_
    refine v_iload_n X 2 rfl (gD D_X12_received_0 6 rfl) rfl ?_
    refine v_callVi X (As := [.int x2]) (rest := [va_rf (some a0)]) (nA := 1) 0 0 0 0 (fun ht => c_X12_isLot htr (ht.sub [0] rfl) hw) (Or.inl rfl) 0 (κ := 13) rfl (by decide) (rfl : gCl[12]? = some (RX12, TX12, 65)) lk_vRX12_232 (by decide +kernel) rfl rfl (by simp [rf_cat, ct_i]) (by decide) (by decide) rfl rfl (gD D_X12_received_0 7 rfl) (fun x60 s61 hq _ _ => ?_)
    replace hw := hq
    clear hq
    refine v_if_eq X 21 (gD D_X12_received_0 8 rfl) (by decide) (fun c62 => ?_) (fun c62 => ?_)
    · replace hw := hw.1 c62
      exact v_sub [0, 0] [0, 1, 2] rfl rfl (t_X12_received_21 X hr hin htr  a0 x1 x2 a0 s61 hw)
    · replace hw := hw.2 c62
      refine v_iconst X 0 (gD D_X12_received_0 9 rfl) (by decide) ?_
      refine v_goto X 22 (gD D_X12_received_0 10 rfl) (by decide) ?_
      exact v_sub [0, 0] [0, 1, 2] rfl rfl (t_X12_received_22 X hr hin htr  a0 x1 x2 a0 0 s61 hw)
set_option maxRecDepth 100000 in
set_option maxHeartbeats 4000000 in
theorem t_X12_roomLeft_15 {p : Program} {l : Launch} {e : Env} {s : State} {m : MethodId} {args : Array Value} {below : List Frame} {meth : Method} {c : Code} {G : GX} {σ0 : St} {mc ms : Nat} {Q : Int32 → St → Prop} (X : VC p l (rmD 2 mc ms) s m args meth c G 2 mc ms 4 RX12 cX12_roomLeft) (hr : meth.sig.returnType = (some .int)) (hin : meth.name = yX12_roomLeft.name) (htr : l.stackTraces = false) : ∀ (f : Nat) (a0 : Nat) (x1 : Int32) (x2 : Int32) (x3 : Int32) (σ : St), w_X12_roomLeft_15 Q  f a0 x1 x2 x3 σ → V p l e (rmD 2 mc ms) s m args below meth c (MQ below (va_Qi Q (gB G 2 σ0) (GA G)) args s mc ms (GA G)) G 2 σ0 mc ms 4 σ 0 0 [(some a0, 13)] 15 [(0, va_rf (some a0)), (1, .int x1), (2, .int x2), (3, .int x3)] [] := by
  intro f
  induction f with
  | zero => intro a0 x1 x2 x3 σ hw; exact hw.elim
  | succ f ih =>
    intro a0 x1 x2 x3 σ hw
    unfold w_X12_roomLeft_15 at hw
    refine v_iload_n X 3 rfl (gD D_X12_roomLeft_0 11 rfl) rfl ?_
    refine v_aload_n X 0 rfl (gD D_X12_roomLeft_0 12 rfl) rfl ?_
    refine v_getI X RX12 TX12 65 13 12 (by decide) rfl gin12 15 1215 RX12 (Or.inl rfl) 0 rfl rfl (by decide) lk_fRX12_187 (gD D_X12_roomLeft_0 13 rfl) ?_
    refine v_icmp_ge X 55 (gD D_X12_roomLeft_0 14 rfl) (by decide) (fun c57 => ?_) (fun c57 => ?_)
    · replace hw := hw.1 c57
      refine v_iload_n X 2 rfl (gD D_X12_roomLeft_0 36 rfl) rfl ?_
      exact v_iret X hr hw (gD D_X12_roomLeft_0 37 rfl)
    · replace hw := hw.2 c57
      refine v_iload_n X 2 rfl (gD D_X12_roomLeft_0 15 rfl) rfl ?_
      refine v_aload_n X 0 rfl (gD D_X12_roomLeft_0 16 rfl) rfl ?_
      refine v_getR X RX12 TX12 65 13 12 (by decide) rfl gin12 19 1219 RX12 (Or.inl rfl) 0 21 rfl rfl rfl (by decide) lk_fRX12_53 (gD D_X12_roomLeft_0 17 rfl) (fun o58 eo58 => ?_)
      replace hw := hw o58 eo58
      refine v_bipush X 12 (gD D_X12_roomLeft_0 18 rfl) (by decide) ?_
      refine v_iload_n X 1 rfl (gD D_X12_roomLeft_0 19 rfl) rfl ?_
      refine v_imul X (gD D_X12_roomLeft_0 20 rfl) ?_
      refine v_iload_n X 3 rfl (gD D_X12_roomLeft_0 21 rfl) rfl ?_
      refine v_iadd X (gD D_X12_roomLeft_0 22 rfl) ?_
      obtain ⟨a59, rfl, hw⟩ := hw
      obtain ⟨h60, hw⟩ := hw
      refine v_iald X 0 rfl (by decide) h60 (gD D_X12_roomLeft_0 23 rfl) ?_
      refine v_aload_n X 0 rfl (gD D_X12_roomLeft_0 24 rfl) rfl ?_
      refine v_getR X RX12 TX12 65 13 12 (by decide) rfl gin12 10 1210 RX12 (Or.inl rfl) 1 21 rfl rfl rfl (by decide) lk_fRX12_28 (gD D_X12_roomLeft_0 25 rfl) (fun o61 eo61 => ?_)
      replace hw := hw o61 eo61
      refine v_aload_n X 0 rfl (gD D_X12_roomLeft_0 26 rfl) rfl ?_
      refine v_getR X RX12 TX12 65 13 12 (by decide) rfl gin12 16 1216 RX12 (Or.inl rfl) 2 21 rfl rfl rfl (by decide) lk_fRX12_44 (gD D_X12_roomLeft_0 27 rfl) (fun o62 eo62 => ?_)
      replace hw := hw o62 eo62
      refine v_iload_n X 3 rfl (gD D_X12_roomLeft_0 28 rfl) rfl ?_
      obtain ⟨a63, rfl, hw⟩ := hw
      obtain ⟨h64, hw⟩ := hw
      refine v_iald X 0 rfl (by decide) h64 (gD D_X12_roomLeft_0 29 rfl) ?_
      obtain ⟨a65, rfl, hw⟩ := hw
      obtain ⟨h66, hw⟩ := hw
      refine v_iald X 1 rfl (by decide) h66 (gD D_X12_roomLeft_0 30 rfl) ?_
      refine v_imul X (gD D_X12_roomLeft_0 31 rfl) ?_
      refine v_isub X (gD D_X12_roomLeft_0 32 rfl) ?_
      refine v_topi (fun x67 ex67 => ?_)
      replace hw := hw x67 ex67
      refine v_istore_n X [(2, .int x67), (0, va_rf (some a0)), (1, .int x1), (3, .int x3)] (gD D_X12_roomLeft_0 33 rfl) rfl (by decide) rfl ?_
      refine v_iinc X (x3 + 1) 3 rfl [(3, .int (x3 + 1)), (2, .int x67), (0, va_rf (some a0)), (1, .int x1)] (gD D_X12_roomLeft_0 34 rfl) rfl (by decide) rfl ?_
      refine v_goto X 15 (gD D_X12_roomLeft_0 35 rfl) (by decide) ?_
      exact v_sub [3] [2, 3, 1, 0] rfl rfl (ih a0 x1 x67 (x3 + 1) σ hw)
set_option maxRecDepth 100000 in
set_option maxHeartbeats 4000000 in
theorem c_X12_roomLeft {l : Launch} {G : GX} (htr : l.stackTraces = false) {σ : St} {a0 : Nat} {x1 : Int32} {Q : Int32 → St → Prop} (ht : tvOk σ [(some a0, 13)]) (hw : w_X12_roomLeft a0 x1 σ Q) : MI l G 2 σ yX12_roomLeft cX12_roomLeft 4 (some .int) 2 0 0 [va_rf (some a0), .int x1] Q := by
  unfold w_X12_roomLeft at hw
  refine m_start RX12 (by decide) htr ht (Nat.le_of_ble_eq_true rfl) rfl (lv := [(0, va_rf (some a0)), (1, .int x1)]) (d := 2) (fun p e s m args below meth c X hr hin => ?_)
  refine v_aload_n X 0 rfl (gD D_X12_roomLeft_0 0 rfl) rfl ?_
  refine v_getR X RX12 TX12 65 13 12 (by decide) rfl gin12 5 1205 RX12 (Or.inl rfl) 0 21 rfl rfl rfl (by decide) lk_fRX12_13 (gD D_X12_roomLeft_0 1 rfl) (fun o51 eo51 => ?_)
  replace hw := hw o51 eo51
  refine v_iload_n X 1 rfl (gD D_X12_roomLeft_0 2 rfl) rfl ?_
  obtain ⟨a52, rfl, hw⟩ := hw
  obtain ⟨h53, hw⟩ := hw
  refine v_iald X 0 rfl (by decide) h53 (gD D_X12_roomLeft_0 3 rfl) ?_
  refine v_aload_n X 0 rfl (gD D_X12_roomLeft_0 4 rfl) rfl ?_
  refine v_iload_n X 1 rfl (gD D_X12_roomLeft_0 5 rfl) rfl ?_
  refine v_callVi X (As := [.int x1]) (rest := [.int (sA σ a52 x1.toNatClampNeg)]) (nA := 1) 0 0 0 0 (fun ht => c_X12_roomHeld htr (ht.sub [1] rfl) hw) (Or.inl rfl) 1 (κ := 13) rfl (by decide) (rfl : gCl[12]? = some (RX12, TX12, 65)) lk_vRX12_210 (by decide +kernel) rfl rfl (by simp [rf_cat, ct_i]) (by decide) (by decide) rfl rfl (gD D_X12_roomLeft_0 6 rfl) (fun x54 s55 hq _ _ => ?_)
  replace hw := hq
  clear hq
  refine v_isub X (gD D_X12_roomLeft_0 7 rfl) ?_
  refine v_topi (fun x56 ex56 => ?_)
  replace hw := hw x56 ex56
  refine v_istore_n X [(2, .int x56), (0, va_rf (some a0)), (1, .int x1)] (gD D_X12_roomLeft_0 8 rfl) rfl (by decide) rfl ?_
  refine v_iconst X 0 (gD D_X12_roomLeft_0 9 rfl) (by decide) ?_
  refine v_istore_n X [(3, .int 0), (2, .int x56), (0, va_rf (some a0)), (1, .int x1)] (gD D_X12_roomLeft_0 10 rfl) rfl (by decide) rfl ?_
  obtain ⟨f68, hw⟩ := hw
  exact v_sub [1] [2, 3, 1, 0] rfl rfl (t_X12_roomLeft_15 X hr hin htr  f68 a0 x1 x56 0 s55 hw)
set_option maxRecDepth 100000 in
set_option maxHeartbeats 4000000 in
theorem t_X12_send_245 {p : Program} {l : Launch} {e : Env} {s : State} {m : MethodId} {args : Array Value} {below : List Frame} {meth : Method} {c : Code} {G : GX} {σ0 : St} {mc ms : Nat} {Q : Int32 → St → Prop} (X : VC p l (rmD 2 mc ms) s m args meth c G 2 mc ms 6 RX12 cX12_send) (hr : meth.sig.returnType = (some .int)) (hin : meth.name = yX12_send.name) (htr : l.stackTraces = false) : ∀ (f : Nat) (a0 : Nat) (x1 : Int32) (x3 : Int32) (x4 : Int32) (σ : St), w_X12_send_245 Q  f a0 x1 x3 x4 σ → V p l e (rmD 2 mc ms) s m args below meth c (MQ below (va_Qi Q (gB G 2 σ0) (GA G)) args s mc ms (GA G)) G 2 σ0 mc ms 6 σ 0 0 [(some a0, 13)] 245 [(0, va_rf (some a0)), (1, .int x1), (3, .int x3), (4, .int x4)] [] := by
  intro f
  induction f with
  | zero => intro a0 x1 x3 x4 σ hw; exact hw.elim
  | succ f ih =>
    intro a0 x1 x3 x4 σ hw
    unfold w_X12_send_245 at hw
    refine v_iload X 3 rfl (gD D_X12_send_1 43 rfl) ?_
    refine v_aload_n X 0 rfl (gD D_X12_send_1 44 rfl) rfl ?_
    refine v_getI X RX12 TX12 65 13 12 (by decide) rfl gin12 45 1245 RX12 (Or.inl rfl) 0 rfl rfl (by decide) lk_fRX12_196 (gD D_X12_send_1 45 rfl) ?_
    refine v_icmp_ge X 300 (gD D_X12_send_1 46 rfl) (by decide) (fun c81 => ?_) (fun c81 => ?_)
    · replace hw := hw.1 c81
      refine v_aload_n X 0 rfl (gD D_X12_send_1 71 rfl) rfl ?_
      refine v_callVv X (As := []) (rest := []) (nA := 0) 0 0 0 0 (fun ht => c_X12_tidies htr (ht.sub [0] rfl) hw) (Or.inl rfl) 0 (κ := 13) rfl (by decide) (rfl : gCl[12]? = some (RX12, TX12, 65)) lk_vRX12_341 (by decide +kernel) rfl rfl (by decide) (by decide) (by decide) rfl rfl (gD D_X12_send_1 72 rfl) (fun s83 hq _ _ => ?_)
      replace hw := hq
      clear hq
      refine v_iload_n X 2 rfl (gD D_X12_send_1 73 rfl) rfl ?_
      exact v_iret X hr hw (gD D_X12_send_1 74 rfl)
    · replace hw := hw.2 c81
      refine v_aload_n X 0 rfl (gD D_X12_send_1 47 rfl) rfl ?_
      refine v_iload X 3 rfl (gD D_X12_send_1 48 rfl) ?_
      refine v_callVi X (As := [.int x4]) (rest := []) (nA := 1) 0 0 0 0 (fun ht => c_X12_isOn htr (ht.sub [0] rfl) hw) (Or.inl rfl) 0 (κ := 13) rfl (by decide) (rfl : gCl[12]? = some (RX12, TX12, 65)) lk_vRX12_199 (by decide +kernel) rfl rfl (by decide) (by decide) (by decide) rfl rfl (gD D_X12_send_1 49 rfl) (fun x84 s85 hq _ _ => ?_)
      replace hw := hq
      clear hq
      refine v_if_eq X 294 (gD D_X12_send_1 50 rfl) (by decide) (fun c86 => ?_) (fun c86 => ?_)
      · replace hw := hw.1 c86
        refine v_iinc X (x4 + 1) 3 rfl [(4, .int (x4 + 1)), (0, va_rf (some a0)), (1, .int x1), (3, .int x3)] (gD D_X12_send_1 69 rfl) rfl (by decide) rfl ?_
        refine v_goto X 245 (gD D_X12_send_1 70 rfl) (by decide) ?_
        exact v_sub [0] [1, 2, 3, 0] rfl rfl (ih a0 x1 x3 (x4 + 1) s85 hw)
      · replace hw := hw.2 c86
        refine v_aload_n X 0 rfl (gD D_X12_send_1 51 rfl) rfl ?_
        refine v_getR X RX12 TX12 65 13 12 (by decide) rfl gin12 46 1246 RX12 (Or.inl rfl) 0 21 rfl rfl rfl (by decide) lk_fRX12_122 (gD D_X12_send_1 52 rfl) (fun o87 eo87 => ?_)
        replace hw := hw o87 eo87
        refine v_iload X 3 rfl (gD D_X12_send_1 53 rfl) ?_
        obtain ⟨a88, rfl, hw⟩ := hw
        obtain ⟨h89, hw⟩ := hw
        refine v_iald X 0 rfl (by decide) h89 (gD D_X12_send_1 54 rfl) ?_
        refine v_iconst X 2 (gD D_X12_send_1 55 rfl) (by decide) ?_
        refine v_icmp_ne X 294 (gD D_X12_send_1 56 rfl) (by decide) (fun c90 => ?_) (fun c90 => ?_)
        · replace hw := hw.1 c90
          refine v_iinc X (x4 + 1) 3 rfl [(4, .int (x4 + 1)), (0, va_rf (some a0)), (1, .int x1), (3, .int x3)] (gD D_X12_send_1 69 rfl) rfl (by decide) rfl ?_
          refine v_goto X 245 (gD D_X12_send_1 70 rfl) (by decide) ?_
          exact v_sub [1] [1, 2, 3, 0] rfl rfl (ih a0 x1 x3 (x4 + 1) s85 hw)
        · replace hw := hw.2 c90
          refine v_aload_n X 0 rfl (gD D_X12_send_1 57 rfl) rfl ?_
          refine v_getR X RX12 TX12 65 13 12 (by decide) rfl gin12 50 1250 RX12 (Or.inl rfl) 1 21 rfl rfl rfl (by decide) lk_fRX12_134 (gD D_X12_send_1 58 rfl) (fun o91 eo91 => ?_)
          replace hw := hw o91 eo91
          refine v_iload X 3 rfl (gD D_X12_send_1 59 rfl) ?_
          obtain ⟨a92, rfl, hw⟩ := hw
          obtain ⟨h93, hw⟩ := hw
          refine v_iald X 0 rfl (by decide) h93 (gD D_X12_send_1 60 rfl) ?_
          refine v_iconst X 3 (gD D_X12_send_1 61 rfl) (by decide) ?_
          refine v_idiv X (gD D_X12_send_1 62 rfl) (by decide) ?_
          refine v_iload_n X 1 rfl (gD D_X12_send_1 63 rfl) rfl ?_
          refine v_icmp_ne X 294 (gD D_X12_send_1 64 rfl) (by decide) (fun c94 => ?_) (fun c94 => ?_)
          · replace hw := hw.1 c94
            refine v_iinc X (x4 + 1) 3 rfl [(4, .int (x4 + 1)), (0, va_rf (some a0)), (1, .int x1), (3, .int x3)] (gD D_X12_send_1 69 rfl) rfl (by decide) rfl ?_
            refine v_goto X 245 (gD D_X12_send_1 70 rfl) (by decide) ?_
            exact v_sub [2] [1, 2, 3, 0] rfl rfl (ih a0 x1 x3 (x4 + 1) s85 hw)
          · replace hw := hw.2 c94
            refine v_aload_n X 0 rfl (gD D_X12_send_1 65 rfl) rfl ?_
            refine v_iload X 3 rfl (gD D_X12_send_1 66 rfl) ?_
            refine v_iconst X 3 (gD D_X12_send_1 67 rfl) (by decide) ?_
            refine v_callVv X (As := [.int x4, .int 3]) (rest := []) (nA := 2) 0 0 0 0 (fun ht => c_X12_ends htr (ht.sub [2] rfl) hw) (Or.inl rfl) 2 (κ := 13) rfl (by decide) (rfl : gCl[12]? = some (RX12, TX12, 65)) lk_vRX12_344 (by decide +kernel) rfl rfl (by decide) (by decide) (by decide) rfl rfl (gD D_X12_send_1 68 rfl) (fun s96 hq _ _ => ?_)
            replace hw := hq
            clear hq
            refine v_iinc X (x4 + 1) 3 rfl [(4, .int (x4 + 1)), (0, va_rf (some a0)), (1, .int x1), (3, .int x3)] (gD D_X12_send_1 69 rfl) rfl (by decide) rfl ?_
            refine v_goto X 245 (gD D_X12_send_1 70 rfl) (by decide) ?_
            exact v_sub [2] [1, 2, 3, 0] rfl rfl (ih a0 x1 x3 (x4 + 1) s96 hw)
set_option maxRecDepth 100000 in
set_option maxHeartbeats 4000000 in
theorem t_X12_send_235 {p : Program} {l : Launch} {e : Env} {s : State} {m : MethodId} {args : Array Value} {below : List Frame} {meth : Method} {c : Code} {G : GX} {σ0 : St} {mc ms : Nat} {Q : Int32 → St → Prop} (X : VC p l (rmD 2 mc ms) s m args meth c G 2 mc ms 6 RX12 cX12_send) (hr : meth.sig.returnType = (some .int)) (hin : meth.name = yX12_send.name) (htr : l.stackTraces = false) {K196 : Nat → Int32 → Int32 → Int32 → St → Prop} (hK196 : ∀ (a0 : Nat) (x1 : Int32) (x3 : Int32) (x4 : Int32) (σ : St), K196 a0 x1 x3 x4 σ → V p l e (rmD 2 mc ms) s m args below meth c (MQ below (va_Qi Q (gB G 2 σ0) (GA G)) args s mc ms (GA G)) G 2 σ0 mc ms 6 σ 0 0 [(some a0, 13)] 196 [(0, va_rf (some a0)), (1, .int x1), (3, .int x3), (4, .int x4)] []) : ∀ (a0 : Nat) (x1 : Int32) (x3 : Int32) (x4 : Int32) (os0 : Option Nat) (xs1 : Int32) (xs2 : Int32) (σ : St), w_X12_send_235 Q K196 a0 x1 x3 x4 os0 xs1 xs2 σ → V p l e (rmD 2 mc ms) s m args below meth c (MQ below (va_Qi Q (gB G 2 σ0) (GA G)) args s mc ms (GA G)) G 2 σ0 mc ms 6 σ 0 0 [(some a0, 13), (os0, 21)] 235 [(0, va_rf (some a0)), (1, .int x1), (3, .int x3), (4, .int x4)] [.int xs2, .int xs1, va_rf os0] := by
  intro a0 x1 x3 x4 os0 xs1 xs2 σ hw
  unfold w_X12_send_235 at hw
  obtain ⟨a106, rfl, hw⟩ := hw
  obtain ⟨h107, hw⟩ := hw
  refine v_iast X 1 rfl (by decide) (Or.inl rfl) h107 (gD D_X12_send_1 38 rfl) (fun s108 es108 => ?_)
  replace hw := hw s108 es108
  refine v_iinc X (x4 + 1) 3 rfl [(4, .int (x4 + 1)), (0, va_rf (some a0)), (1, .int x1), (3, .int x3)] (gD D_X12_send_1 39 rfl) rfl (by decide) rfl ?_
  refine v_goto X 196 (gD D_X12_send_1 40 rfl) (by decide) ?_
  exact v_sub [0] [1, 2, 3, 0] rfl rfl (hK196 a0 x1 x3 (x4 + 1) s108 hw)
set_option maxRecDepth 100000 in
set_option maxHeartbeats 4000000 in
theorem t_X12_send_196 {p : Program} {l : Launch} {e : Env} {s : State} {m : MethodId} {args : Array Value} {below : List Frame} {meth : Method} {c : Code} {G : GX} {σ0 : St} {mc ms : Nat} {Q : Int32 → St → Prop} (X : VC p l (rmD 2 mc ms) s m args meth c G 2 mc ms 6 RX12 cX12_send) (hr : meth.sig.returnType = (some .int)) (hin : meth.name = yX12_send.name) (htr : l.stackTraces = false) : ∀ (f : Nat) (a0 : Nat) (x1 : Int32) (x3 : Int32) (x4 : Int32) (σ : St), w_X12_send_196 Q  f a0 x1 x3 x4 σ → V p l e (rmD 2 mc ms) s m args below meth c (MQ below (va_Qi Q (gB G 2 σ0) (GA G)) args s mc ms (GA G)) G 2 σ0 mc ms 6 σ 0 0 [(some a0, 13)] 196 [(0, va_rf (some a0)), (1, .int x1), (3, .int x3), (4, .int x4)] [] := by
  intro f
  induction f with
  | zero => intro a0 x1 x3 x4 σ hw; exact hw.elim
  | succ f ih =>
    intro a0 x1 x3 x4 σ hw
    unfold w_X12_send_196 at hw
    refine v_iload X 3 rfl (gD D_X12_send_1 17 rfl) ?_
    refine v_aload_n X 0 rfl (gD D_X12_send_1 18 rfl) rfl ?_
    refine v_getI X RX12 TX12 65 13 12 (by decide) rfl gin12 39 1239 RX12 (Or.inl rfl) 0 rfl rfl (by decide) lk_fRX12_203 (gD D_X12_send_1 19 rfl) ?_
    refine v_icmp_ge X 242 (gD D_X12_send_1 20 rfl) (by decide) (fun c80 => ?_) (fun c80 => ?_)
    · replace hw := hw.1 c80
      refine v_iconst X 0 (gD D_X12_send_1 41 rfl) (by decide) ?_
      refine v_istore X [(4, .int 0), (0, va_rf (some a0)), (1, .int x1), (3, .int x3)] (gD D_X12_send_1 42 rfl) (by decide) rfl ?_
      obtain ⟨f97, hw⟩ := hw
      exact v_sub [0] [1, 2, 3, 0] rfl rfl (t_X12_send_245 X hr hin htr  f97 a0 x1 x3 0 σ hw)
    · replace hw := hw.2 c80
      refine v_aload_n X 0 rfl (gD D_X12_send_1 21 rfl) rfl ?_
      refine v_getR X RX12 TX12 65 13 12 (by decide) rfl gin12 43 1243 RX12 (Or.inl rfl) 0 21 rfl rfl rfl (by decide) lk_fRX12_116 (gD D_X12_send_1 22 rfl) (fun o98 eo98 => ?_)
      replace hw := hw o98 eo98
      refine v_iload X 3 rfl (gD D_X12_send_1 23 rfl) ?_
      refine v_aload_n X 0 rfl (gD D_X12_send_1 24 rfl) rfl ?_
      refine v_getR X RX12 TX12 65 13 12 (by decide) rfl gin12 40 1240 RX12 (Or.inl rfl) 1 21 rfl rfl rfl (by decide) lk_fRX12_107 (gD D_X12_send_1 25 rfl) (fun o99 eo99 => ?_)
      replace hw := hw o99 eo99
      refine v_iload X 3 rfl (gD D_X12_send_1 26 rfl) ?_
      obtain ⟨a100, rfl, hw⟩ := hw
      obtain ⟨h101, hw⟩ := hw
      refine v_iald X 0 rfl (by decide) h101 (gD D_X12_send_1 27 rfl) ?_
      refine v_iconst X 3 (gD D_X12_send_1 28 rfl) (by decide) ?_
      refine v_idiv X (gD D_X12_send_1 29 rfl) (by decide) ?_
      refine v_iload_n X 1 rfl (gD D_X12_send_1 30 rfl) rfl ?_
      refine v_icmp_ne X 228 (gD D_X12_send_1 31 rfl) (by decide) (fun c102 => ?_) (fun c102 => ?_)
      · replace hw := hw.1 c102
        refine v_aload_n X 0 rfl (gD D_X12_send_1 34 rfl) rfl ?_
        refine v_getR X RX12 TX12 65 13 12 (by decide) rfl gin12 43 1243 RX12 (Or.inl rfl) 2 21 rfl rfl rfl (by decide) lk_fRX12_116 (gD D_X12_send_1 35 rfl) (fun o103 eo103 => ?_)
        replace hw := hw o103 eo103
        refine v_iload X 3 rfl (gD D_X12_send_1 36 rfl) ?_
        obtain ⟨a104, rfl, hw⟩ := hw
        obtain ⟨h105, hw⟩ := hw
        refine v_iald X 0 rfl (by decide) h105 (gD D_X12_send_1 37 rfl) ?_
        exact v_sub [3, 2] [0, 1, 2, 3] rfl rfl (t_X12_send_235 X hr hin htr ih a0 x1 x3 x4 o98 x4 (sA σ a104 x4.toNatClampNeg) σ hw)
      · replace hw := hw.2 c102
        refine v_iconst X 0 (gD D_X12_send_1 32 rfl) (by decide) ?_
        refine v_goto X 235 (gD D_X12_send_1 33 rfl) (by decide) ?_
        exact v_sub [2, 1] [0, 1, 2, 3] rfl rfl (t_X12_send_235 X hr hin htr ih a0 x1 x3 x4 o98 x4 0 σ hw)
set_option maxRecDepth 100000 in
set_option maxHeartbeats 4000000 in
theorem t_X12_send_122 {p : Program} {l : Launch} {e : Env} {s : State} {m : MethodId} {args : Array Value} {below : List Frame} {meth : Method} {c : Code} {G : GX} {σ0 : St} {mc ms : Nat} {Q : Int32 → St → Prop} (X : VC p l (rmD 2 mc ms) s m args meth c G 2 mc ms 6 RX12 cX12_send) (hr : meth.sig.returnType = (some .int)) (hin : meth.name = yX12_send.name) (htr : l.stackTraces = false) : ∀ (f : Nat) (a0 : Nat) (x1 : Int32) (x3 : Int32) (x4 : Int32) (σ : St), w_X12_send_122 Q  f a0 x1 x3 x4 σ → V p l e (rmD 2 mc ms) s m args below meth c (MQ below (va_Qi Q (gB G 2 σ0) (GA G)) args s mc ms (GA G)) G 2 σ0 mc ms 6 σ 0 0 [(some a0, 13)] 122 [(0, va_rf (some a0)), (1, .int x1), (3, .int x3), (4, .int x4)] [] := by
  intro f
  induction f with
  | zero => intro a0 x1 x3 x4 σ hw; exact hw.elim
  | succ f ih =>
    intro a0 x1 x3 x4 σ hw
    unfold w_X12_send_122 at hw
    refine v_iload X 3 rfl (gD D_X12_send_0 72 rfl) ?_
    refine v_aload_n X 0 rfl (gD D_X12_send_0 73 rfl) rfl ?_
    refine v_getI X RX12 TX12 65 13 12 (by decide) rfl gin12 15 1215 RX12 (Or.inl rfl) 0 rfl rfl (by decide) lk_fRX12_187 (gD D_X12_send_0 74 rfl) ?_
    refine v_icmp_ge X 186 (gD D_X12_send_0 75 rfl) (by decide) (fun c75 => ?_) (fun c75 => ?_)
    · replace hw := hw.1 c75
      refine v_aload_n X 0 rfl (gD D_X12_send_1 10 rfl) rfl ?_
      refine v_getR X RX12 TX12 65 13 12 (by decide) rfl gin12 32 1232 RX12 (Or.inl rfl) 0 22 rfl rfl rfl (by decide) lk_fRX12_86 (gD D_X12_send_1 11 rfl) (fun o76 eo76 => ?_)
      replace hw := hw o76 eo76
      refine v_iload_n X 1 rfl (gD D_X12_send_1 12 rfl) rfl ?_
      refine v_iconst X 1 (gD D_X12_send_1 13 rfl) (by decide) ?_
      obtain ⟨a77, rfl, hw⟩ := hw
      obtain ⟨h78, hw⟩ := hw
      refine v_zast X 0 rfl rfl (Or.inl rfl) h78 (by decide) (gD D_X12_send_1 14 rfl) (fun s79 es79 => ?_)
      replace hw := hw s79 es79
      refine v_iconst X 0 (gD D_X12_send_1 15 rfl) (by decide) ?_
      refine v_istore X [(4, .int 0), (0, va_rf (some a0)), (1, .int x1), (3, .int x3)] (gD D_X12_send_1 16 rfl) (by decide) rfl ?_
      obtain ⟨f109, hw⟩ := hw
      exact v_sub [1] [1, 2, 3, 0] rfl rfl (t_X12_send_196 X hr hin htr  f109 a0 x1 x3 0 s79 hw)
    · replace hw := hw.2 c75
      refine v_aload_n X 0 rfl (gD D_X12_send_0 76 rfl) rfl ?_
      refine v_getR X RX12 TX12 65 13 12 (by decide) rfl gin12 19 1219 RX12 (Or.inl rfl) 0 21 rfl rfl rfl (by decide) lk_fRX12_53 (gD D_X12_send_0 77 rfl) (fun o110 eo110 => ?_)
      replace hw := hw o110 eo110
      refine v_bipush X 12 (gD D_X12_send_0 78 rfl) (by decide) ?_
      refine v_bipush X 20 (gD D_X12_send_0 79 rfl) (by decide) ?_
      refine v_iload_n X 1 rfl (gD D_X12_send_0 80 rfl) rfl ?_
      refine v_iadd X (gD D_X12_send_0 81 rfl) ?_
      refine v_imul X (gD D_X12_send_0 82 rfl) ?_
      refine v_iload X 3 rfl (gD D_X12_send_0 83 rfl) ?_
      refine v_iadd X (gD D_X12_send_0 84 rfl) ?_
      obtain ⟨a111, rfl, hw⟩ := hw
      obtain ⟨h112, hw⟩ := hw
      refine v_iald X 0 rfl (by decide) h112 (gD D_X12_send_0 85 rfl) ?_
      refine v_topi (fun x113 ex113 => ?_)
      replace hw := hw x113 ex113
      refine v_istore X [(5, .int x113), (0, va_rf (some a0)), (1, .int x1), (3, .int x3), (4, .int x4)] (gD D_X12_send_0 86 rfl) (by decide) rfl ?_
      refine v_aload_n X 1 rfl (gD D_X12_send_0 87 rfl) rfl ?_
      refine v_getR X RX12 TX12 65 13 12 (by decide) rfl gin12 33 1233 RX12 (Or.inl rfl) 1 21 rfl rfl rfl (by decide) lk_fRX12_89 (gD D_X12_send_0 88 rfl) (fun o114 eo114 => ?_)
      replace hw := hw o114 eo114
      refine v_bipush X 12 (gD D_X12_send_0 89 rfl) (by decide) ?_
      refine v_iload_n X 2 rfl (gD D_X12_send_0 90 rfl) rfl ?_
      refine v_imul X (gD D_X12_send_0 91 rfl) ?_
      refine v_iload X 4 rfl (gD D_X12_send_0 92 rfl) ?_
      refine v_iadd X (gD D_X12_send_0 93 rfl) ?_
      refine v_iload X 0 rfl (gD D_X12_send_0 94 rfl) ?_
      obtain ⟨a115, rfl, hw⟩ := hw
      obtain ⟨h116, hw⟩ := hw
      refine v_iast X 0 rfl (by decide) (Or.inl rfl) h116 (gD D_X12_send_0 95 rfl) (fun s117 es117 => ?_)
      replace hw := hw s117 es117
      refine v_aload_n X 1 rfl (gD D_X12_send_0 96 rfl) rfl ?_
      refine v_bipush X 20 (gD D_X12_send_0 97 rfl) (by decide) ?_
      refine v_iload_n X 2 rfl (gD D_X12_send_0 98 rfl) rfl ?_
      refine v_iadd X (gD D_X12_send_0 99 rfl) ?_
      refine v_iload X 4 rfl (gD D_X12_send_1 0 rfl) ?_
      refine v_iload X 0 rfl (gD D_X12_send_1 1 rfl) ?_
      refine v_ineg X (gD D_X12_send_1 2 rfl) ?_
      refine v_callVv X (As := [.int (20 + x1), .int x4, .int (-x113)]) (rest := []) (nA := 3) 0 0 0 0 (fun ht => c_X12_books htr (ht.sub [2] rfl) hw) (Or.inl rfl) 2 (κ := 13) rfl (by decide) (rfl : gCl[12]? = some (RX12, TX12, 65)) lk_vRX12_250 (by decide +kernel) rfl rfl (by decide) (by decide) (by decide) rfl rfl (gD D_X12_send_1 3 rfl) (fun s119 hq _ _ => ?_)
      replace hw := hq
      clear hq
      refine v_iload_n X 3 rfl (gD D_X12_send_1 4 rfl) rfl ?_
      refine v_iload X 0 rfl (gD D_X12_send_1 5 rfl) ?_
      refine v_iadd X (gD D_X12_send_1 6 rfl) ?_
      refine v_topi (fun x120 ex120 => ?_)
      replace hw := hw x120 ex120
      refine v_istore_n X [(3, .int x120), (5, .int x113), (0, va_rf (some a0)), (1, .int x1), (4, .int x4)] (gD D_X12_send_1 7 rfl) rfl (by decide) rfl ?_
      refine v_iinc X (x4 + 1) 4 rfl [(4, .int (x4 + 1)), (3, .int x120), (5, .int x113), (0, va_rf (some a0)), (1, .int x1)] (gD D_X12_send_1 8 rfl) rfl (by decide) rfl ?_
      refine v_goto X 122 (gD D_X12_send_1 9 rfl) (by decide) ?_
      exact v_sub [2] [3, 4, 1, 0] rfl rfl (ih a0 x1 x120 (x4 + 1) s119 hw)
set_option maxRecDepth 100000 in
set_option maxHeartbeats 4000000 in
theorem t_X12_send_70 {p : Program} {l : Launch} {e : Env} {s : State} {m : MethodId} {args : Array Value} {below : List Frame} {meth : Method} {c : Code} {G : GX} {σ0 : St} {mc ms : Nat} {Q : Int32 → St → Prop} (X : VC p l (rmD 2 mc ms) s m args meth c G 2 mc ms 6 RX12 cX12_send) (hr : meth.sig.returnType = (some .int)) (hin : meth.name = yX12_send.name) (htr : l.stackTraces = false) : ∀ (f : Nat) (a0 : Nat) (x1 : Int32) (x3 : Int32) (x4 : Int32) (σ : St), w_X12_send_70 Q  f a0 x1 x3 x4 σ → V p l e (rmD 2 mc ms) s m args below meth c (MQ below (va_Qi Q (gB G 2 σ0) (GA G)) args s mc ms (GA G)) G 2 σ0 mc ms 6 σ 0 0 [(some a0, 13)] 70 [(0, va_rf (some a0)), (1, .int x1), (3, .int x3), (4, .int x4)] [] := by
  intro f
  induction f with
  | zero => intro a0 x1 x3 x4 σ hw; exact hw.elim
  | succ f ih =>
    intro a0 x1 x3 x4 σ hw
    unfold w_X12_send_70 at hw
    refine v_iload X 3 rfl (gD D_X12_send_0 43 rfl) ?_
    refine v_aload_n X 0 rfl (gD D_X12_send_0 44 rfl) rfl ?_
    refine v_getR X RX12 TX12 65 13 12 (by decide) rfl gin12 35 1235 RX12 (Or.inl rfl) 0 21 rfl rfl rfl (by decide) lk_fRX12_95 (gD D_X12_send_0 45 rfl) (fun o71 eo71 => ?_)
    replace hw := hw o71 eo71
    refine v_iload_n X 1 rfl (gD D_X12_send_0 46 rfl) rfl ?_
    obtain ⟨a72, rfl, hw⟩ := hw
    obtain ⟨h73, hw⟩ := hw
    refine v_iald X 0 rfl (by decide) h73 (gD D_X12_send_0 47 rfl) ?_
    refine v_icmp_ge X 119 (gD D_X12_send_0 48 rfl) (by decide) (fun c74 => ?_) (fun c74 => ?_)
    · replace hw := hw.1 c74
      refine v_iconst X 0 (gD D_X12_send_0 70 rfl) (by decide) ?_
      refine v_istore X [(4, .int 0), (0, va_rf (some a0)), (1, .int x1), (3, .int x3)] (gD D_X12_send_0 71 rfl) (by decide) rfl ?_
      obtain ⟨f121, hw⟩ := hw
      exact v_sub [1] [1, 2, 3, 0] rfl rfl (t_X12_send_122 X hr hin htr  f121 a0 x1 x3 0 σ hw)
    · replace hw := hw.2 c74
      refine v_aload_n X 0 rfl (gD D_X12_send_0 49 rfl) rfl ?_
      refine v_getR X RX12 TX12 65 13 12 (by decide) rfl gin12 34 1234 RX12 (Or.inl rfl) 1 21 rfl rfl rfl (by decide) lk_fRX12_92 (gD D_X12_send_0 50 rfl) (fun o122 eo122 => ?_)
      replace hw := hw o122 eo122
      refine v_sipush X 300 (gD D_X12_send_0 51 rfl) (by decide) ?_
      refine v_iload_n X 1 rfl (gD D_X12_send_0 52 rfl) rfl ?_
      refine v_imul X (gD D_X12_send_0 53 rfl) ?_
      refine v_iload X 3 rfl (gD D_X12_send_0 54 rfl) ?_
      refine v_iadd X (gD D_X12_send_0 55 rfl) ?_
      refine v_sipush X 1000 (gD D_X12_send_0 56 rfl) (by decide) ?_
      refine v_aload_n X 0 rfl (gD D_X12_send_0 57 rfl) rfl ?_
      refine v_getR X RX12 TX12 65 13 12 (by decide) rfl gin12 62 1262 RX12 (Or.inl rfl) 2 21 rfl rfl rfl (by decide) lk_fRX12_170 (gD D_X12_send_0 58 rfl) (fun o123 eo123 => ?_)
      replace hw := hw o123 eo123
      refine v_iload X 3 rfl (gD D_X12_send_0 59 rfl) ?_
      obtain ⟨a124, rfl, hw⟩ := hw
      obtain ⟨h125, hw⟩ := hw
      refine v_iald X 0 rfl (by decide) h125 (gD D_X12_send_0 60 rfl) ?_
      refine v_imul X (gD D_X12_send_0 61 rfl) ?_
      refine v_aload_n X 0 rfl (gD D_X12_send_0 62 rfl) rfl ?_
      refine v_getR X RX12 TX12 65 13 12 (by decide) rfl gin12 63 1263 RX12 (Or.inl rfl) 3 21 rfl rfl rfl (by decide) lk_fRX12_173 (gD D_X12_send_0 63 rfl) (fun o126 eo126 => ?_)
      replace hw := hw o126 eo126
      refine v_iload X 3 rfl (gD D_X12_send_0 64 rfl) ?_
      obtain ⟨a127, rfl, hw⟩ := hw
      obtain ⟨h128, hw⟩ := hw
      refine v_iald X 0 rfl (by decide) h128 (gD D_X12_send_0 65 rfl) ?_
      refine v_iadd X (gD D_X12_send_0 66 rfl) ?_
      obtain ⟨a129, rfl, hw⟩ := hw
      obtain ⟨h130, hw⟩ := hw
      refine v_iast X 2 rfl (by decide) (Or.inl rfl) h130 (gD D_X12_send_0 67 rfl) (fun s131 es131 => ?_)
      replace hw := hw s131 es131
      refine v_iinc X (x4 + 1) 3 rfl [(4, .int (x4 + 1)), (0, va_rf (some a0)), (1, .int x1), (3, .int x3)] (gD D_X12_send_0 68 rfl) rfl (by decide) rfl ?_
      refine v_goto X 70 (gD D_X12_send_0 69 rfl) (by decide) ?_
      exact v_sub [4] [1, 2, 3, 0] rfl rfl (ih a0 x1 x3 (x4 + 1) s131 hw)
set_option maxRecDepth 100000 in
set_option maxHeartbeats 4000000 in
theorem t_X12_send_29 {p : Program} {l : Launch} {e : Env} {s : State} {m : MethodId} {args : Array Value} {below : List Frame} {meth : Method} {c : Code} {G : GX} {σ0 : St} {mc ms : Nat} {Q : Int32 → St → Prop} (X : VC p l (rmD 2 mc ms) s m args meth c G 2 mc ms 6 RX12 cX12_send) (hr : meth.sig.returnType = (some .int)) (hin : meth.name = yX12_send.name) (htr : l.stackTraces = false) : ∀ (a0 : Nat) (x1 : Int32) (as0 : Nat) (xs1 : Int32) (σ : St), w_X12_send_29 Q  a0 x1 as0 xs1 σ → V p l e (rmD 2 mc ms) s m args below meth c (MQ below (va_Qi Q (gB G 2 σ0) (GA G)) args s mc ms (GA G)) G 2 σ0 mc ms 6 σ 0 0 [(some a0, 13), (some as0, 13)] 29 [(0, va_rf (some a0)), (1, .int x1)] [.int xs1, va_rf (some as0)] := by
  intro a0 x1 as0 xs1 σ hw
  unfold w_X12_send_29 at hw
  refine v_callVi X (As := [.int xs1]) (rest := []) (nA := 1) 0 0 0 0 (fun ht => c_X12_holds htr (ht.sub [1] rfl) hw) (Or.inl rfl) 1 (κ := 13) rfl (by decide) (rfl : gCl[12]? = some (RX12, TX12, 65)) lk_vRX12_223 (by decide +kernel) rfl rfl (by decide) (by decide) (by decide) rfl rfl (gD D_X12_send_0 17 rfl) (fun x58 s59 hq _ _ => ?_)
  replace hw := hq
  clear hq
  refine v_if_ne X 37 (gD D_X12_send_0 18 rfl) (by decide) (fun c60 => ?_) (fun c60 => ?_)
  · replace hw := hw.1 c60
    refine v_iconst X 0 (gD D_X12_send_0 21 rfl) (by decide) ?_
    refine v_istore_n X [(3, .int 0), (0, va_rf (some a0)), (1, .int x1)] (gD D_X12_send_0 22 rfl) rfl (by decide) rfl ?_
    refine v_aload_n X 1 rfl (gD D_X12_send_0 23 rfl) rfl ?_
    refine v_getR X RX12 TX12 65 13 12 (by decide) rfl gin12 35 1235 RX12 (Or.inl rfl) 0 21 rfl rfl rfl (by decide) lk_fRX12_95 (gD D_X12_send_0 24 rfl) (fun o61 eo61 => ?_)
    replace hw := hw o61 eo61
    refine v_iload_n X 2 rfl (gD D_X12_send_0 25 rfl) rfl ?_
    refine v_aload_n X 1 rfl (gD D_X12_send_0 26 rfl) rfl ?_
    refine v_iload_n X 2 rfl (gD D_X12_send_0 27 rfl) rfl ?_
    refine v_callVi X (As := [.int x1]) (rest := [.int x1, va_rf o61]) (nA := 1) 0 0 0 0 (fun ht => c_X12_packs htr (ht.sub [1] rfl) hw) (Or.inl rfl) 1 (κ := 13) rfl (by decide) (rfl : gCl[12]? = some (RX12, TX12, 65)) lk_vRX12_371 (by decide +kernel) rfl rfl (by simp [rf_cat, ct_i]) (by decide) (by decide) rfl rfl (gD D_X12_send_0 28 rfl) (fun x62 s63 hq _ _ => ?_)
    replace hw := hq
    clear hq
    obtain ⟨a64, rfl, hw⟩ := hw
    obtain ⟨h65, hw⟩ := hw
    refine v_iast X 0 rfl (by decide) (Or.inl rfl) h65 (gD D_X12_send_0 29 rfl) (fun s66 es66 => ?_)
    replace hw := hw s66 es66
    refine v_aload_n X 1 rfl (gD D_X12_send_0 30 rfl) rfl ?_
    refine v_dup X (gD D_X12_send_0 31 rfl) (rf_cat _) ?_
    refine v_getI X RX12 TX12 65 13 12 (by decide) rfl gin12 2 1202 RX12 (Or.inl rfl) 1 rfl rfl (by decide) lk_fRX12_254 (gD D_X12_send_0 32 rfl) ?_
    refine v_iconst X 5 (gD D_X12_send_0 33 rfl) (by decide) ?_
    refine v_aload_n X 1 rfl (gD D_X12_send_0 34 rfl) rfl ?_
    refine v_getR X RX12 TX12 65 13 12 (by decide) rfl gin12 35 1235 RX12 (Or.inl rfl) 1 21 rfl rfl rfl (by decide) lk_fRX12_95 (gD D_X12_send_0 35 rfl) (fun o67 eo67 => ?_)
    replace hw := hw o67 eo67
    refine v_iload_n X 2 rfl (gD D_X12_send_0 36 rfl) rfl ?_
    obtain ⟨a68, rfl, hw⟩ := hw
    obtain ⟨h69, hw⟩ := hw
    refine v_iald X 0 rfl (by decide) h69 (gD D_X12_send_0 37 rfl) ?_
    refine v_imul X (gD D_X12_send_0 38 rfl) ?_
    refine v_iadd X (gD D_X12_send_0 39 rfl) ?_
    refine v_putI X RX12 TX12 65 13 12 (by decide) rfl gin12 2 1202 tyX12 tyX12_ok nmX12 RX12 (Or.inl rfl) 2 rfl .int (int_fit _) rfl (by decide) (Or.inl rfl) lk_fRX12_254 rfl rfl (gD D_X12_send_0 40 rfl) (fun s70 es70 => ?_)
    replace hw := hw s70 es70
    refine v_iconst X 0 (gD D_X12_send_0 41 rfl) (by decide) ?_
    refine v_istore X [(4, .int 0), (3, .int 0), (0, va_rf (some a0)), (1, .int x1)] (gD D_X12_send_0 42 rfl) (by decide) rfl ?_
    obtain ⟨f132, hw⟩ := hw
    exact v_sub [2] [2, 3, 1, 0] rfl rfl (t_X12_send_70 X hr hin htr  f132 a0 x1 0 0 s70 hw)
  · replace hw := hw.2 c60
    refine v_iconst X 0 (gD D_X12_send_0 19 rfl) (by decide) ?_
    exact v_iret X hr hw (gD D_X12_send_0 20 rfl)
set_option maxRecDepth 100000 in
set_option maxHeartbeats 4000000 in
theorem c_X12_send {l : Launch} {G : GX} (htr : l.stackTraces = false) {σ : St} {a0 : Nat} {x1 : Int32} {Q : Int32 → St → Prop} (ht : tvOk σ [(some a0, 13)]) (hw : w_X12_send a0 x1 σ Q) : MI l G 2 σ yX12_send cX12_send 6 (some .int) 2 0 0 [va_rf (some a0), .int x1] Q := by
  unfold w_X12_send at hw
  refine m_start RX12 (by decide) htr ht (Nat.le_of_ble_eq_true rfl) rfl (lv := [(0, va_rf (some a0)), (1, .int x1)]) (d := 2) (fun p e s m args below meth c X hr hin => ?_)
  refine v_aload_n X 0 rfl (gD D_X12_send_0 0 rfl) rfl ?_
  refine v_iload_n X 1 rfl (gD D_X12_send_0 1 rfl) rfl ?_
  refine v_callVi X (As := [.int x1]) (rest := []) (nA := 1) 0 0 0 0 (fun ht => c_X12_isOrder htr (ht.sub [0] rfl) hw) (Or.inl rfl) 0 (κ := 13) rfl (by decide) (rfl : gCl[12]? = some (RX12, TX12, 65)) lk_vRX12_287 (by decide +kernel) rfl rfl (by decide) (by decide) (by decide) rfl rfl (gD D_X12_send_0 2 rfl) (fun x51 s52 hq _ _ => ?_)
  replace hw := hq
  clear hq
  refine v_istore_n X [(2, .int x51), (0, va_rf (some a0)), (1, .int x1)] (gD D_X12_send_0 3 rfl) rfl (by decide) rfl ?_
  refine v_aload_n X 1 rfl (gD D_X12_send_0 4 rfl) rfl ?_
  refine v_iload_n X 0 rfl (gD D_X12_send_0 5 rfl) rfl ?_
  refine v_if_ne X 15 (gD D_X12_send_0 6 rfl) (by decide) (fun c53 => ?_) (fun c53 => ?_)
  · replace hw := hw.1 c53
    refine v_aload_n X 1 rfl (gD D_X12_send_0 9 rfl) rfl ?_
    refine v_getR X RX12 TX12 65 13 12 (by decide) rfl gin12 32 1232 RX12 (Or.inl rfl) 0 22 rfl rfl rfl (by decide) lk_fRX12_86 (gD D_X12_send_0 10 rfl) (fun o54 eo54 => ?_)
    replace hw := hw o54 eo54
    refine v_iload_n X 2 rfl (gD D_X12_send_0 11 rfl) rfl ?_
    obtain ⟨a55, rfl, hw⟩ := hw
    obtain ⟨h56, hw⟩ := hw
    refine v_zald X 0 rfl rfl h56 (gD D_X12_send_0 12 rfl) ?_
    refine v_if_eq X 28 (gD D_X12_send_0 13 rfl) (by decide) (fun c57 => ?_) (fun c57 => ?_)
    · replace hw := hw.1 c57
      refine v_iconst X 0 (gD D_X12_send_0 16 rfl) (by decide) ?_
      exact v_sub [1, 1] [1, 2] rfl rfl (t_X12_send_29 X hr hin htr  a0 x1 a0 0 s52 hw)
    · replace hw := hw.2 c57
      refine v_iconst X 2 (gD D_X12_send_0 14 rfl) (by decide) ?_
      refine v_goto X 29 (gD D_X12_send_0 15 rfl) (by decide) ?_
      exact v_sub [1, 1] [1, 2] rfl rfl (t_X12_send_29 X hr hin htr  a0 x1 a0 2 s52 hw)
  · replace hw := hw.2 c53
    refine v_iconst X 1 (gD D_X12_send_0 7 rfl) (by decide) ?_
    refine v_goto X 29 (gD D_X12_send_0 8 rfl) (by decide) ?_
    exact v_sub [0, 0] [1, 2] rfl rfl (t_X12_send_29 X hr hin htr  a0 x1 a0 1 s52 hw)
set_option maxRecDepth 100000 in
set_option maxHeartbeats 4000000 in
theorem t_X12_sent_22 {p : Program} {l : Launch} {e : Env} {s : State} {m : MethodId} {args : Array Value} {below : List Frame} {meth : Method} {c : Code} {G : GX} {σ0 : St} {mc ms : Nat} {Q : Int32 → St → Prop} (X : VC p l (rmD 2 mc ms) s m args meth c G 2 mc ms 3 RX12 cX12_sent) (hr : meth.sig.returnType = (some .int)) (hin : meth.name = yX12_sent.name) (htr : l.stackTraces = false) : ∀ (a0 : Nat) (x1 : Int32) (x2 : Int32) (as0 : Nat) (xs1 : Int32) (σ : St), w_X12_sent_22 Q  a0 x1 x2 as0 xs1 σ → V p l e (rmD 2 mc ms) s m args below meth c (MQ below (va_Qi Q (gB G 2 σ0) (GA G)) args s mc ms (GA G)) G 2 σ0 mc ms 3 σ 0 0 [(some a0, 13), (some as0, 13)] 22 [(0, va_rf (some a0)), (1, .int x1), (2, .int x2)] [.int xs1, va_rf (some as0)] := by
  intro a0 x1 x2 as0 xs1 σ hw
  unfold w_X12_sent_22 at hw
  refine v_callVi X (As := [.int xs1]) (rest := []) (nA := 1) 0 0 0 0 (fun ht => c_X12_holds htr (ht.sub [1] rfl) hw) (Or.inl rfl) 1 (κ := 13) rfl (by decide) (rfl : gCl[12]? = some (RX12, TX12, 65)) lk_vRX12_223 (by decide +kernel) rfl rfl (by decide) (by decide) (by decide) rfl rfl (gD D_X12_sent_0 12 rfl) (fun x54 s55 hq _ _ => ?_)
  replace hw := hq
  clear hq
  refine v_if_eq X 42 (gD D_X12_sent_0 13 rfl) (by decide) (fun c56 => ?_) (fun c56 => ?_)
  · replace hw := hw.1 c56
    refine v_iconst X 0 (gD D_X12_sent_0 23 rfl) (by decide) ?_
    exact v_iret X hr hw (gD D_X12_sent_0 24 rfl)
  · replace hw := hw.2 c56
    refine v_aload_n X 0 rfl (gD D_X12_sent_0 14 rfl) rfl ?_
    refine v_getR X RX12 TX12 65 13 12 (by decide) rfl gin12 33 1233 RX12 (Or.inl rfl) 0 21 rfl rfl rfl (by decide) lk_fRX12_89 (gD D_X12_sent_0 15 rfl) (fun o57 eo57 => ?_)
    replace hw := hw o57 eo57
    refine v_bipush X 12 (gD D_X12_sent_0 16 rfl) (by decide) ?_
    refine v_iload_n X 1 rfl (gD D_X12_sent_0 17 rfl) rfl ?_
    refine v_imul X (gD D_X12_sent_0 18 rfl) ?_
    refine v_iload_n X 2 rfl (gD D_X12_sent_0 19 rfl) rfl ?_
    refine v_iadd X (gD D_X12_sent_0 20 rfl) ?_
    obtain ⟨a58, rfl, hw⟩ := hw
    obtain ⟨h59, hw⟩ := hw
    refine v_iald X 0 rfl (by decide) h59 (gD D_X12_sent_0 21 rfl) ?_
    refine v_goto X 43 (gD D_X12_sent_0 22 rfl) (by decide) ?_
    exact v_iret X hr hw (gD D_X12_sent_0 24 rfl)
set_option maxRecDepth 100000 in
set_option maxHeartbeats 4000000 in
theorem t_X12_sent_21 {p : Program} {l : Launch} {e : Env} {s : State} {m : MethodId} {args : Array Value} {below : List Frame} {meth : Method} {c : Code} {G : GX} {σ0 : St} {mc ms : Nat} {Q : Int32 → St → Prop} (X : VC p l (rmD 2 mc ms) s m args meth c G 2 mc ms 3 RX12 cX12_sent) (hr : meth.sig.returnType = (some .int)) (hin : meth.name = yX12_sent.name) (htr : l.stackTraces = false) : ∀ (a0 : Nat) (x1 : Int32) (x2 : Int32) (as0 : Nat) (σ : St), w_X12_sent_21 Q  a0 x1 x2 as0 σ → V p l e (rmD 2 mc ms) s m args below meth c (MQ below (va_Qi Q (gB G 2 σ0) (GA G)) args s mc ms (GA G)) G 2 σ0 mc ms 3 σ 0 0 [(some a0, 13), (some as0, 13)] 21 [(0, va_rf (some a0)), (1, .int x1), (2, .int x2)] [va_rf (some as0)] := by
  intro a0 x1 x2 as0 σ hw
  unfold w_X12_sent_21 at hw
  refine v_iconst X 1 (gD D_X12_sent_0 11 rfl) (by decide) ?_
  exact v_sub [0, 1] [0, 1, 2] rfl rfl (t_X12_sent_22 X hr hin htr  a0 x1 x2 as0 1 σ hw)
set_option maxRecDepth 100000 in
set_option maxHeartbeats 4000000 in
theorem c_X12_sent {l : Launch} {G : GX} (htr : l.stackTraces = false) {σ : St} {a0 : Nat} {x1 : Int32} {x2 : Int32} {Q : Int32 → St → Prop} (ht : tvOk σ [(some a0, 13)]) (hw : w_X12_sent a0 x1 x2 σ Q) : MI l G 2 σ yX12_sent cX12_sent 3 (some .int) 2 0 0 [va_rf (some a0), .int x1, .int x2] Q := by
  unfold w_X12_sent at hw
  refine m_start RX12 (by decide) htr ht (Nat.le_of_ble_eq_true rfl) rfl (lv := [(0, va_rf (some a0)), (1, .int x1), (2, .int x2)]) (d := 2) (fun p e s m args below meth c X hr hin => ?_)
  refine v_aload_n X 0 rfl (gD D_X12_sent_0 0 rfl) rfl ?_
  refine v_aload_n X 0 rfl (gD D_X12_sent_0 1 rfl) rfl ?_
  refine v_iload_n X 1 rfl (gD D_X12_sent_0 2 rfl) rfl ?_
  refine v_callVi X (As := [.int x1]) (rest := [va_rf (some a0)]) (nA := 1) 0 0 0 0 (fun ht => c_X12_isOrder htr (ht.sub [0] rfl) hw) (Or.inl rfl) 0 (κ := 13) rfl (by decide) (rfl : gCl[12]? = some (RX12, TX12, 65)) lk_vRX12_287 (by decide +kernel) rfl rfl (by simp [rf_cat, ct_i]) (by decide) (by decide) rfl rfl (gD D_X12_sent_0 3 rfl) (fun x51 s52 hq _ _ => ?_)
  replace hw := hq
  clear hq
  refine v_if_eq X 21 (gD D_X12_sent_0 4 rfl) (by decide) (fun c53 => ?_) (fun c53 => ?_)
  · replace hw := hw.1 c53
    exact v_sub [0, 0] [0, 1, 2] rfl rfl (t_X12_sent_21 X hr hin htr  a0 x1 x2 a0 s52 hw)
  · replace hw := hw.2 c53
    refine v_aload_n X 0 rfl (gD D_X12_sent_0 5 rfl) rfl ?_
    refine v_iload_n X 2 rfl (gD D_X12_sent_0 6 rfl) rfl ?_
    refine v_callVi X (As := [.int x2]) (rest := [va_rf (some a0)]) (nA := 1) 0 0 0 0 (fun ht => c_X12_isLot htr (ht.sub [0] rfl) hw) (Or.inl rfl) 0 (κ := 13) rfl (by decide) (rfl : gCl[12]? = some (RX12, TX12, 65)) lk_vRX12_232 (by decide +kernel) rfl rfl (by simp [rf_cat, ct_i]) (by decide) (by decide) rfl rfl (gD D_X12_sent_0 7 rfl) (fun x60 s61 hq _ _ => ?_)
    replace hw := hq
    clear hq
    refine v_if_eq X 21 (gD D_X12_sent_0 8 rfl) (by decide) (fun c62 => ?_) (fun c62 => ?_)
    · replace hw := hw.1 c62
      exact v_sub [0, 0] [0, 1, 2] rfl rfl (t_X12_sent_21 X hr hin htr  a0 x1 x2 a0 s61 hw)
    · replace hw := hw.2 c62
      refine v_iconst X 0 (gD D_X12_sent_0 9 rfl) (by decide) ?_
      refine v_goto X 22 (gD D_X12_sent_0 10 rfl) (by decide) ?_
      exact v_sub [0, 0] [0, 1, 2] rfl rfl (t_X12_sent_22 X hr hin htr  a0 x1 x2 a0 0 s61 hw)
set_option maxRecDepth 100000 in
set_option maxHeartbeats 4000000 in
theorem t_X12_shorts_206 {p : Program} {l : Launch} {e : Env} {s : State} {m : MethodId} {args : Array Value} {below : List Frame} {meth : Method} {c : Code} {G : GX} {σ0 : St} {mc ms : Nat} {Q : St → Prop} (X : VC p l (rmD 2 mc ms) s m args meth c G 2 mc ms 10 RX12 cX12_shorts) (hr : meth.sig.returnType = none) (hin : meth.name = yX12_shorts.name) (htr : l.stackTraces = false) : ∀ (f : Nat) (a0 : Nat) (x1 : Int32) (x2 : Int32) (x4 : Int32) (x5 : Int32) (x6 : Int32) (σ : St), w_X12_shorts_206 Q  f a0 x1 x2 x4 x5 x6 σ → V p l e (rmD 2 mc ms) s m args below meth c (MQ below (va_Qv Q (gB G 2 σ0) (GA G)) args s mc ms (GA G)) G 2 σ0 mc ms 10 σ 0 0 [(some a0, 13)] 206 [(0, va_rf (some a0)), (1, .int x1), (2, .int x2), (4, .int x4), (5, .int x5), (6, .int x6)] [] := by
  intro f
  induction f with
  | zero => intro a0 x1 x2 x4 x5 x6 σ hw; exact hw.elim
  | succ f ih =>
    intro a0 x1 x2 x4 x5 x6 σ hw
    unfold w_X12_shorts_206 at hw
    refine v_iload X 5 rfl (gD D_X12_shorts_1 15 rfl) ?_
    refine v_aload_n X 0 rfl (gD D_X12_shorts_1 16 rfl) rfl ?_
    refine v_getI X RX12 TX12 65 13 12 (by decide) rfl gin12 45 1245 RX12 (Or.inl rfl) 0 rfl rfl (by decide) lk_fRX12_196 (gD D_X12_shorts_1 17 rfl) ?_
    refine v_icmp_ge X 283 (gD D_X12_shorts_1 18 rfl) (by decide) (fun c62 => ?_) (fun c62 => ?_)
    · replace hw := hw.1 c62
      exact v_vret X hr hw (gD D_X12_shorts_1 53 rfl)
    · replace hw := hw.2 c62
      refine v_iload X 5 rfl (gD D_X12_shorts_1 19 rfl) ?_
      refine v_iload X 3 rfl (gD D_X12_shorts_1 20 rfl) ?_
      refine v_icmp_eq X 277 (gD D_X12_shorts_1 21 rfl) (by decide) (fun c63 => ?_) (fun c63 => ?_)
      · replace hw := hw.1 c63
        refine v_iinc X (x6 + 1) 5 rfl [(6, .int (x6 + 1)), (0, va_rf (some a0)), (1, .int x1), (2, .int x2), (4, .int x4), (5, .int x5)] (gD D_X12_shorts_1 51 rfl) rfl (by decide) rfl ?_
        refine v_goto X 206 (gD D_X12_shorts_1 52 rfl) (by decide) ?_
        exact v_sub [0] [1, 2, 3, 4, 5, 0] rfl rfl (ih a0 x1 x2 x4 x5 (x6 + 1) σ hw)
      · replace hw := hw.2 c63
        refine v_aload_n X 0 rfl (gD D_X12_shorts_1 22 rfl) rfl ?_
        refine v_iload X 5 rfl (gD D_X12_shorts_1 23 rfl) ?_
        refine v_callVi X (As := [.int x6]) (rest := []) (nA := 1) 0 0 0 0 (fun ht => c_X12_isOn htr (ht.sub [0] rfl) hw) (Or.inl rfl) 0 (κ := 13) rfl (by decide) (rfl : gCl[12]? = some (RX12, TX12, 65)) lk_vRX12_199 (by decide +kernel) rfl rfl (by decide) (by decide) (by decide) rfl rfl (gD D_X12_shorts_1 24 rfl) (fun x64 s65 hq _ _ => ?_)
        replace hw := hq
        clear hq
        refine v_if_eq X 277 (gD D_X12_shorts_1 25 rfl) (by decide) (fun c66 => ?_) (fun c66 => ?_)
        · replace hw := hw.1 c66
          refine v_iinc X (x6 + 1) 5 rfl [(6, .int (x6 + 1)), (0, va_rf (some a0)), (1, .int x1), (2, .int x2), (4, .int x4), (5, .int x5)] (gD D_X12_shorts_1 51 rfl) rfl (by decide) rfl ?_
          refine v_goto X 206 (gD D_X12_shorts_1 52 rfl) (by decide) ?_
          exact v_sub [0] [1, 2, 3, 4, 5, 0] rfl rfl (ih a0 x1 x2 x4 x5 (x6 + 1) s65 hw)
        · replace hw := hw.2 c66
          refine v_aload_n X 0 rfl (gD D_X12_shorts_1 26 rfl) rfl ?_
          refine v_getR X RX12 TX12 65 13 12 (by decide) rfl gin12 46 1246 RX12 (Or.inl rfl) 0 21 rfl rfl rfl (by decide) lk_fRX12_122 (gD D_X12_shorts_1 27 rfl) (fun o67 eo67 => ?_)
          replace hw := hw o67 eo67
          refine v_iload X 5 rfl (gD D_X12_shorts_1 28 rfl) ?_
          obtain ⟨a68, rfl, hw⟩ := hw
          obtain ⟨h69, hw⟩ := hw
          refine v_iald X 0 rfl (by decide) h69 (gD D_X12_shorts_1 29 rfl) ?_
          refine v_iconst X 1 (gD D_X12_shorts_1 30 rfl) (by decide) ?_
          refine v_icmp_ne X 277 (gD D_X12_shorts_1 31 rfl) (by decide) (fun c70 => ?_) (fun c70 => ?_)
          · replace hw := hw.1 c70
            refine v_iinc X (x6 + 1) 5 rfl [(6, .int (x6 + 1)), (0, va_rf (some a0)), (1, .int x1), (2, .int x2), (4, .int x4), (5, .int x5)] (gD D_X12_shorts_1 51 rfl) rfl (by decide) rfl ?_
            refine v_goto X 206 (gD D_X12_shorts_1 52 rfl) (by decide) ?_
            exact v_sub [1] [1, 2, 3, 4, 5, 0] rfl rfl (ih a0 x1 x2 x4 x5 (x6 + 1) s65 hw)
          · replace hw := hw.2 c70
            refine v_aload_n X 0 rfl (gD D_X12_shorts_1 32 rfl) rfl ?_
            refine v_getR X RX12 TX12 65 13 12 (by decide) rfl gin12 48 1248 RX12 (Or.inl rfl) 1 21 rfl rfl rfl (by decide) lk_fRX12_128 (gD D_X12_shorts_1 33 rfl) (fun o71 eo71 => ?_)
            replace hw := hw o71 eo71
            refine v_iload X 5 rfl (gD D_X12_shorts_1 34 rfl) ?_
            obtain ⟨a72, rfl, hw⟩ := hw
            obtain ⟨h73, hw⟩ := hw
            refine v_iald X 0 rfl (by decide) h73 (gD D_X12_shorts_1 35 rfl) ?_
            refine v_iload_n X 1 rfl (gD D_X12_shorts_1 36 rfl) rfl ?_
            refine v_icmp_ne X 277 (gD D_X12_shorts_1 37 rfl) (by decide) (fun c74 => ?_) (fun c74 => ?_)
            · replace hw := hw.1 c74
              refine v_iinc X (x6 + 1) 5 rfl [(6, .int (x6 + 1)), (0, va_rf (some a0)), (1, .int x1), (2, .int x2), (4, .int x4), (5, .int x5)] (gD D_X12_shorts_1 51 rfl) rfl (by decide) rfl ?_
              refine v_goto X 206 (gD D_X12_shorts_1 52 rfl) (by decide) ?_
              exact v_sub [2] [1, 2, 3, 4, 5, 0] rfl rfl (ih a0 x1 x2 x4 x5 (x6 + 1) s65 hw)
            · replace hw := hw.2 c74
              refine v_aload_n X 0 rfl (gD D_X12_shorts_1 38 rfl) rfl ?_
              refine v_getR X RX12 TX12 65 13 12 (by decide) rfl gin12 47 1247 RX12 (Or.inl rfl) 2 21 rfl rfl rfl (by decide) lk_fRX12_125 (gD D_X12_shorts_1 39 rfl) (fun o75 eo75 => ?_)
              replace hw := hw o75 eo75
              refine v_iload X 5 rfl (gD D_X12_shorts_1 40 rfl) ?_
              obtain ⟨a76, rfl, hw⟩ := hw
              obtain ⟨h77, hw⟩ := hw
              refine v_iald X 0 rfl (by decide) h77 (gD D_X12_shorts_1 41 rfl) ?_
              refine v_iload_n X 2 rfl (gD D_X12_shorts_1 42 rfl) rfl ?_
              refine v_icmp_ne X 277 (gD D_X12_shorts_1 43 rfl) (by decide) (fun c78 => ?_) (fun c78 => ?_)
              · replace hw := hw.1 c78
                refine v_iinc X (x6 + 1) 5 rfl [(6, .int (x6 + 1)), (0, va_rf (some a0)), (1, .int x1), (2, .int x2), (4, .int x4), (5, .int x5)] (gD D_X12_shorts_1 51 rfl) rfl (by decide) rfl ?_
                refine v_goto X 206 (gD D_X12_shorts_1 52 rfl) (by decide) ?_
                exact v_sub [3] [1, 2, 3, 4, 5, 0] rfl rfl (ih a0 x1 x2 x4 x5 (x6 + 1) s65 hw)
              · replace hw := hw.2 c78
                refine v_iload X 4 rfl (gD D_X12_shorts_1 44 rfl) ?_
                refine v_aload_n X 0 rfl (gD D_X12_shorts_1 45 rfl) rfl ?_
                refine v_iload X 5 rfl (gD D_X12_shorts_1 46 rfl) ?_
                refine v_iload X 4 rfl (gD D_X12_shorts_1 47 rfl) ?_
                refine v_callVi X (As := [.int x6, .int x5]) (rest := [.int x5]) (nA := 2) 0 0 0 0 (fun ht => c_X12_keeps htr (ht.sub [3] rfl) hw) (Or.inl rfl) 3 (κ := 13) rfl (by decide) (rfl : gCl[12]? = some (RX12, TX12, 65)) lk_vRX12_347 (by decide +kernel) rfl rfl (by simp [rf_cat, ct_i]) (by decide) (by decide) rfl rfl (gD D_X12_shorts_1 48 rfl) (fun x79 s80 hq _ _ => ?_)
                replace hw := hq
                clear hq
                refine v_isub X (gD D_X12_shorts_1 49 rfl) ?_
                refine v_topi (fun x81 ex81 => ?_)
                replace hw := hw x81 ex81
                refine v_istore X [(5, .int x81), (0, va_rf (some a0)), (1, .int x1), (2, .int x2), (4, .int x4), (6, .int x6)] (gD D_X12_shorts_1 50 rfl) (by decide) rfl ?_
                refine v_iinc X (x6 + 1) 5 rfl [(6, .int (x6 + 1)), (5, .int x81), (0, va_rf (some a0)), (1, .int x1), (2, .int x2), (4, .int x4)] (gD D_X12_shorts_1 51 rfl) rfl (by decide) rfl ?_
                refine v_goto X 206 (gD D_X12_shorts_1 52 rfl) (by decide) ?_
                exact v_sub [3] [2, 3, 4, 5, 1, 0] rfl rfl (ih a0 x1 x2 x4 x81 (x6 + 1) s80 hw)
set_option maxRecDepth 100000 in
set_option maxHeartbeats 4000000 in
theorem t_X12_shorts_87 {p : Program} {l : Launch} {e : Env} {s : State} {m : MethodId} {args : Array Value} {below : List Frame} {meth : Method} {c : Code} {G : GX} {σ0 : St} {mc ms : Nat} {Q : St → Prop} (X : VC p l (rmD 2 mc ms) s m args meth c G 2 mc ms 10 RX12 cX12_shorts) (hr : meth.sig.returnType = none) (hin : meth.name = yX12_shorts.name) (htr : l.stackTraces = false) {K43 : Nat → Int32 → Int32 → Int32 → Int32 → Int32 → St → Prop} (hK43 : ∀ (a0 : Nat) (x1 : Int32) (x2 : Int32) (x4 : Int32) (x5 : Int32) (x6 : Int32) (σ : St), K43 a0 x1 x2 x4 x5 x6 σ → V p l e (rmD 2 mc ms) s m args below meth c (MQ below (va_Qv Q (gB G 2 σ0) (GA G)) args s mc ms (GA G)) G 2 σ0 mc ms 10 σ 0 0 [(some a0, 13)] 43 [(0, va_rf (some a0)), (1, .int x1), (2, .int x2), (4, .int x4), (5, .int x5), (6, .int x6)] []) : ∀ (a0 : Nat) (x1 : Int32) (x2 : Int32) (x4 : Int32) (x5 : Int32) (x6 : Int32) (x7 : Int32) (xs0 : Int32) (σ : St), w_X12_shorts_87 Q K43 a0 x1 x2 x4 x5 x6 x7 xs0 σ → V p l e (rmD 2 mc ms) s m args below meth c (MQ below (va_Qv Q (gB G 2 σ0) (GA G)) args s mc ms (GA G)) G 2 σ0 mc ms 10 σ 0 0 [(some a0, 13)] 87 [(0, va_rf (some a0)), (1, .int x1), (2, .int x2), (4, .int x4), (5, .int x5), (6, .int x6), (7, .int x7)] [.int xs0] := by
  intro a0 x1 x2 x4 x5 x6 x7 xs0 σ hw
  unfold w_X12_shorts_87 at hw
  refine v_istore X [(8, .int xs0), (0, va_rf (some a0)), (1, .int x1), (2, .int x2), (4, .int x4), (5, .int x5), (6, .int x6), (7, .int x7)] (gD D_X12_shorts_0 51 rfl) (by decide) rfl ?_
  refine v_aload_n X 1 rfl (gD D_X12_shorts_0 52 rfl) rfl ?_
  refine v_getR X RX12 TX12 65 13 12 (by decide) rfl gin12 40 1240 RX12 (Or.inl rfl) 0 21 rfl rfl rfl (by decide) lk_fRX12_107 (gD D_X12_shorts_0 53 rfl) (fun o86 eo86 => ?_)
  replace hw := hw o86 eo86
  refine v_iload X 7 rfl (gD D_X12_shorts_0 54 rfl) ?_
  obtain ⟨a87, rfl, hw⟩ := hw
  obtain ⟨h88, hw⟩ := hw
  refine v_iald X 0 rfl (by decide) h88 (gD D_X12_shorts_0 55 rfl) ?_
  refine v_iconst X 3 (gD D_X12_shorts_0 56 rfl) (by decide) ?_
  refine v_idiv X (gD D_X12_shorts_0 57 rfl) (by decide) ?_
  refine v_iload X 6 rfl (gD D_X12_shorts_0 58 rfl) ?_
  refine v_aload_n X 1 rfl (gD D_X12_shorts_0 59 rfl) rfl ?_
  refine v_getI X RX12 TX12 65 13 12 (by decide) rfl gin12 39 1239 RX12 (Or.inl rfl) 1 rfl rfl (by decide) lk_fRX12_203 (gD D_X12_shorts_0 60 rfl) ?_
  obtain ⟨h89, hw⟩ := hw
  refine v_idiv X (gD D_X12_shorts_0 61 rfl) h89 ?_
  refine v_icmp_ne X 197 (gD D_X12_shorts_0 62 rfl) (by decide) (fun c90 => ?_) (fun c90 => ?_)
  · replace hw := hw.1 c90
    refine v_iinc X (x6 + 1) 6 rfl [(6, .int (x6 + 1)), (8, .int xs0), (0, va_rf (some a0)), (1, .int x1), (2, .int x2), (4, .int x4), (5, .int x5), (7, .int x7)] (gD D_X12_shorts_1 11 rfl) rfl (by decide) rfl ?_
    refine v_goto X 43 (gD D_X12_shorts_1 12 rfl) (by decide) ?_
    exact v_sub [1] [2, 3, 4, 5, 6, 0] rfl rfl (hK43 a0 x1 x2 x4 x5 (x6 + 1) σ hw)
  · replace hw := hw.2 c90
    refine v_aload_n X 1 rfl (gD D_X12_shorts_0 63 rfl) rfl ?_
    refine v_getR X RX12 TX12 65 13 12 (by decide) rfl gin12 41 1241 RX12 (Or.inl rfl) 1 21 rfl rfl rfl (by decide) lk_fRX12_110 (gD D_X12_shorts_0 64 rfl) (fun o91 eo91 => ?_)
    replace hw := hw o91 eo91
    refine v_iload X 7 rfl (gD D_X12_shorts_0 65 rfl) ?_
    obtain ⟨a92, rfl, hw⟩ := hw
    obtain ⟨h93, hw⟩ := hw
    refine v_iald X 0 rfl (by decide) h93 (gD D_X12_shorts_0 66 rfl) ?_
    refine v_iload_n X 2 rfl (gD D_X12_shorts_0 67 rfl) rfl ?_
    refine v_icmp_ne X 197 (gD D_X12_shorts_0 68 rfl) (by decide) (fun c94 => ?_) (fun c94 => ?_)
    · replace hw := hw.1 c94
      refine v_iinc X (x6 + 1) 6 rfl [(6, .int (x6 + 1)), (8, .int xs0), (0, va_rf (some a0)), (1, .int x1), (2, .int x2), (4, .int x4), (5, .int x5), (7, .int x7)] (gD D_X12_shorts_1 11 rfl) rfl (by decide) rfl ?_
      refine v_goto X 43 (gD D_X12_shorts_1 12 rfl) (by decide) ?_
      exact v_sub [2] [2, 3, 4, 5, 6, 0] rfl rfl (hK43 a0 x1 x2 x4 x5 (x6 + 1) σ hw)
    · replace hw := hw.2 c94
      refine v_aload_n X 1 rfl (gD D_X12_shorts_0 69 rfl) rfl ?_
      refine v_getR X RX12 TX12 65 13 12 (by decide) rfl gin12 42 1242 RX12 (Or.inl rfl) 2 21 rfl rfl rfl (by decide) lk_fRX12_113 (gD D_X12_shorts_0 70 rfl) (fun o95 eo95 => ?_)
      replace hw := hw o95 eo95
      refine v_iload X 7 rfl (gD D_X12_shorts_0 71 rfl) ?_
      obtain ⟨a96, rfl, hw⟩ := hw
      obtain ⟨h97, hw⟩ := hw
      refine v_iald X 0 rfl (by decide) h97 (gD D_X12_shorts_0 72 rfl) ?_
      refine v_iload_n X 3 rfl (gD D_X12_shorts_0 73 rfl) rfl ?_
      refine v_icmp_ne X 197 (gD D_X12_shorts_0 74 rfl) (by decide) (fun c98 => ?_) (fun c98 => ?_)
      · replace hw := hw.1 c98
        refine v_iinc X (x6 + 1) 6 rfl [(6, .int (x6 + 1)), (8, .int xs0), (0, va_rf (some a0)), (1, .int x1), (2, .int x2), (4, .int x4), (5, .int x5), (7, .int x7)] (gD D_X12_shorts_1 11 rfl) rfl (by decide) rfl ?_
        refine v_goto X 43 (gD D_X12_shorts_1 12 rfl) (by decide) ?_
        exact v_sub [3] [2, 3, 4, 5, 6, 0] rfl rfl (hK43 a0 x1 x2 x4 x5 (x6 + 1) σ hw)
      · replace hw := hw.2 c98
        refine v_iload X 0 rfl (gD D_X12_shorts_0 75 rfl) ?_
        refine v_if_eq X 197 (gD D_X12_shorts_0 76 rfl) (by decide) (fun c99 => ?_) (fun c99 => ?_)
        · replace hw := hw.1 c99
          refine v_iinc X (x6 + 1) 6 rfl [(6, .int (x6 + 1)), (8, .int xs0), (0, va_rf (some a0)), (1, .int x1), (2, .int x2), (4, .int x4), (5, .int x5), (7, .int x7)] (gD D_X12_shorts_1 11 rfl) rfl (by decide) rfl ?_
          refine v_goto X 43 (gD D_X12_shorts_1 12 rfl) (by decide) ?_
          exact v_sub [3] [2, 3, 4, 5, 6, 0] rfl rfl (hK43 a0 x1 x2 x4 x5 (x6 + 1) σ hw)
        · replace hw := hw.2 c99
          refine v_aload_n X 1 rfl (gD D_X12_shorts_0 77 rfl) rfl ?_
          refine v_getR X RX12 TX12 65 13 12 (by decide) rfl gin12 43 1243 RX12 (Or.inl rfl) 3 21 rfl rfl rfl (by decide) lk_fRX12_116 (gD D_X12_shorts_0 78 rfl) (fun o100 eo100 => ?_)
          replace hw := hw o100 eo100
          refine v_iload X 7 rfl (gD D_X12_shorts_0 79 rfl) ?_
          refine v_aload_n X 1 rfl (gD D_X12_shorts_0 80 rfl) rfl ?_
          refine v_getR X RX12 TX12 65 13 12 (by decide) rfl gin12 43 1243 RX12 (Or.inl rfl) 4 21 rfl rfl rfl (by decide) lk_fRX12_116 (gD D_X12_shorts_0 81 rfl) (fun o101 eo101 => ?_)
          replace hw := hw o101 eo101
          refine v_iload X 7 rfl (gD D_X12_shorts_0 82 rfl) ?_
          obtain ⟨a102, rfl, hw⟩ := hw
          obtain ⟨h103, hw⟩ := hw
          refine v_iald X 0 rfl (by decide) h103 (gD D_X12_shorts_0 83 rfl) ?_
          refine v_iload X 5 rfl (gD D_X12_shorts_0 84 rfl) ?_
          refine v_callSi X (As := [.int (sA σ a102 x7.toNatClampNeg), .int x5]) (rest := [.int x7, va_rf o100]) (nA := 2) 0 0 0 0 (fun ht => c_X12_less htr (ht.sub [] rfl) hw) (Or.inl rfl) lk_sRX12_281 (by decide +kernel) rfl rfl (by simp [rf_cat, ct_i]) (by decide) (by decide) rfl rfl (gD D_X12_shorts_0 85 rfl) (fun x104 s105 hq _ _ => ?_)
          replace hw := hq
          clear hq
          obtain ⟨a106, rfl, hw⟩ := hw
          obtain ⟨h107, hw⟩ := hw
          refine v_iast X 1 rfl (by decide) (Or.inl rfl) h107 (gD D_X12_shorts_0 86 rfl) (fun s108 es108 => ?_)
          replace hw := hw s108 es108
          refine v_iload X 5 rfl (gD D_X12_shorts_0 87 rfl) ?_
          refine v_aload_n X 1 rfl (gD D_X12_shorts_0 88 rfl) rfl ?_
          refine v_getR X RX12 TX12 65 13 12 (by decide) rfl gin12 43 1243 RX12 (Or.inl rfl) 5 21 rfl rfl rfl (by decide) lk_fRX12_116 (gD D_X12_shorts_0 89 rfl) (fun o109 eo109 => ?_)
          replace hw := hw o109 eo109
          refine v_iload X 7 rfl (gD D_X12_shorts_0 90 rfl) ?_
          obtain ⟨a110, rfl, hw⟩ := hw
          obtain ⟨h111, hw⟩ := hw
          refine v_iald X 0 rfl (by decide) h111 (gD D_X12_shorts_0 91 rfl) ?_
          refine v_isub X (gD D_X12_shorts_0 92 rfl) ?_
          refine v_topi (fun x112 ex112 => ?_)
          replace hw := hw x112 ex112
          refine v_istore X [(5, .int x112), (8, .int xs0), (0, va_rf (some a0)), (1, .int x1), (2, .int x2), (4, .int x4), (6, .int x6), (7, .int x7)] (gD D_X12_shorts_0 93 rfl) (by decide) rfl ?_
          refine v_aload_n X 2 rfl (gD D_X12_shorts_0 94 rfl) rfl ?_
          refine v_getR X RX12 TX12 65 13 12 (by decide) rfl gin12 44 1244 RX12 (Or.inl rfl) 6 21 rfl rfl rfl (by decide) lk_fRX12_119 (gD D_X12_shorts_0 95 rfl) (fun o113 eo113 => ?_)
          replace hw := hw o113 eo113
          refine v_iload X 7 rfl (gD D_X12_shorts_0 96 rfl) ?_
          obtain ⟨a114, rfl, hw⟩ := hw
          obtain ⟨h115, hw⟩ := hw
          refine v_iald X 0 rfl (by decide) h115 (gD D_X12_shorts_0 97 rfl) ?_
          refine v_iconst X (-1) (gD D_X12_shorts_0 98 rfl) (by decide) ?_
          refine v_icmp_eq X 197 (gD D_X12_shorts_0 99 rfl) (by decide) (fun c116 => ?_) (fun c116 => ?_)
          · replace hw := hw.1 c116
            refine v_iinc X (x6 + 1) 6 rfl [(6, .int (x6 + 1)), (5, .int x112), (8, .int xs0), (0, va_rf (some a0)), (1, .int x1), (2, .int x2), (4, .int x4), (7, .int x7)] (gD D_X12_shorts_1 11 rfl) rfl (by decide) rfl ?_
            refine v_goto X 43 (gD D_X12_shorts_1 12 rfl) (by decide) ?_
            exact v_sub [7] [3, 4, 5, 6, 1, 0] rfl rfl (hK43 a0 x1 x2 x4 x112 (x6 + 1) s108 hw)
          · replace hw := hw.2 c116
            refine v_aload_n X 2 rfl (gD D_X12_shorts_1 0 rfl) rfl ?_
            refine v_aload_n X 2 rfl (gD D_X12_shorts_1 1 rfl) rfl ?_
            refine v_getR X RX12 TX12 65 13 12 (by decide) rfl gin12 44 1244 RX12 (Or.inl rfl) 7 21 rfl rfl rfl (by decide) lk_fRX12_119 (gD D_X12_shorts_1 2 rfl) (fun o117 eo117 => ?_)
            replace hw := hw o117 eo117
            refine v_iload X 7 rfl (gD D_X12_shorts_1 3 rfl) ?_
            obtain ⟨a118, rfl, hw⟩ := hw
            obtain ⟨h119, hw⟩ := hw
            refine v_iald X 0 rfl (by decide) h119 (gD D_X12_shorts_1 4 rfl) ?_
            refine v_aload_n X 2 rfl (gD D_X12_shorts_1 5 rfl) rfl ?_
            refine v_getR X RX12 TX12 65 13 12 (by decide) rfl gin12 43 1243 RX12 (Or.inl rfl) 8 21 rfl rfl rfl (by decide) lk_fRX12_116 (gD D_X12_shorts_1 6 rfl) (fun o120 eo120 => ?_)
            replace hw := hw o120 eo120
            refine v_iload X 7 rfl (gD D_X12_shorts_1 7 rfl) ?_
            obtain ⟨a121, rfl, hw⟩ := hw
            obtain ⟨h122, hw⟩ := hw
            refine v_iald X 0 rfl (by decide) h122 (gD D_X12_shorts_1 8 rfl) ?_
            refine v_callVi X (As := [.int (sA s108 a118 x7.toNatClampNeg), .int (sA s108 a121 x7.toNatClampNeg)]) (rest := []) (nA := 2) 0 0 0 0 (fun ht => c_X12_keeps htr (ht.sub [9] rfl) hw) (Or.inl rfl) 9 (κ := 13) rfl (by decide) (rfl : gCl[12]? = some (RX12, TX12, 65)) lk_vRX12_347 (by decide +kernel) rfl rfl (by decide) (by decide) (by decide) rfl rfl (gD D_X12_shorts_1 9 rfl) (fun x123 s124 hq _ _ => ?_)
            replace hw := hq
            clear hq
            refine v_istore X [(9, .int x123), (5, .int x112), (8, .int xs0), (0, va_rf (some a0)), (1, .int x1), (2, .int x2), (4, .int x4), (6, .int x6), (7, .int x7)] (gD D_X12_shorts_1 10 rfl) (by decide) rfl ?_
            refine v_iinc X (x6 + 1) 7 rfl [(6, .int (x6 + 1)), (9, .int x123), (5, .int x112), (8, .int xs0), (0, va_rf (some a0)), (1, .int x1), (2, .int x2), (4, .int x4), (7, .int x7)] (gD D_X12_shorts_1 11 rfl) rfl (by decide) rfl ?_
            refine v_goto X 43 (gD D_X12_shorts_1 12 rfl) (by decide) ?_
            exact v_sub [9] [4, 5, 6, 7, 2, 0] rfl rfl (hK43 a0 x1 x2 x4 x112 (x6 + 1) s124 hw)
set_option maxRecDepth 100000 in
set_option maxHeartbeats 4000000 in
theorem t_X12_shorts_43 {p : Program} {l : Launch} {e : Env} {s : State} {m : MethodId} {args : Array Value} {below : List Frame} {meth : Method} {c : Code} {G : GX} {σ0 : St} {mc ms : Nat} {Q : St → Prop} (X : VC p l (rmD 2 mc ms) s m args meth c G 2 mc ms 10 RX12 cX12_shorts) (hr : meth.sig.returnType = none) (hin : meth.name = yX12_shorts.name) (htr : l.stackTraces = false) : ∀ (f : Nat) (a0 : Nat) (x1 : Int32) (x2 : Int32) (x4 : Int32) (x5 : Int32) (x6 : Int32) (σ : St), w_X12_shorts_43 Q  f a0 x1 x2 x4 x5 x6 σ → V p l e (rmD 2 mc ms) s m args below meth c (MQ below (va_Qv Q (gB G 2 σ0) (GA G)) args s mc ms (GA G)) G 2 σ0 mc ms 10 σ 0 0 [(some a0, 13)] 43 [(0, va_rf (some a0)), (1, .int x1), (2, .int x2), (4, .int x4), (5, .int x5), (6, .int x6)] [] := by
  intro f
  induction f with
  | zero => intro a0 x1 x2 x4 x5 x6 σ hw; exact hw.elim
  | succ f ih =>
    intro a0 x1 x2 x4 x5 x6 σ hw
    unfold w_X12_shorts_43 at hw
    refine v_iload X 5 rfl (gD D_X12_shorts_0 28 rfl) ?_
    refine v_bipush X 8 (gD D_X12_shorts_0 29 rfl) (by decide) ?_
    refine v_aload_n X 0 rfl (gD D_X12_shorts_0 30 rfl) rfl ?_
    refine v_getI X RX12 TX12 65 13 12 (by decide) rfl gin12 39 1239 RX12 (Or.inl rfl) 0 rfl rfl (by decide) lk_fRX12_203 (gD D_X12_shorts_0 31 rfl) ?_
    refine v_imul X (gD D_X12_shorts_0 32 rfl) ?_
    refine v_icmp_ge X 203 (gD D_X12_shorts_0 33 rfl) (by decide) (fun c61 => ?_) (fun c61 => ?_)
    · replace hw := hw.1 c61
      refine v_iconst X 0 (gD D_X12_shorts_1 13 rfl) (by decide) ?_
      refine v_istore X [(6, .int 0), (0, va_rf (some a0)), (1, .int x1), (2, .int x2), (4, .int x4), (5, .int x5)] (gD D_X12_shorts_1 14 rfl) (by decide) rfl ?_
      obtain ⟨f82, hw⟩ := hw
      exact v_sub [0] [1, 2, 3, 4, 5, 0] rfl rfl (t_X12_shorts_206 X hr hin htr  f82 a0 x1 x2 x4 x5 0 σ hw)
    · replace hw := hw.2 c61
      refine v_iload X 5 rfl (gD D_X12_shorts_0 34 rfl) ?_
      refine v_aload_n X 0 rfl (gD D_X12_shorts_0 35 rfl) rfl ?_
      refine v_getI X RX12 TX12 65 13 12 (by decide) rfl gin12 39 1239 RX12 (Or.inl rfl) 0 rfl rfl (by decide) lk_fRX12_203 (gD D_X12_shorts_0 36 rfl) ?_
      obtain ⟨h83, hw⟩ := hw
      refine v_irem X (gD D_X12_shorts_0 37 rfl) h83 ?_
      refine v_topi (fun x84 ex84 => ?_)
      replace hw := hw x84 ex84
      refine v_istore X [(7, .int x84), (0, va_rf (some a0)), (1, .int x1), (2, .int x2), (4, .int x4), (5, .int x5), (6, .int x6)] (gD D_X12_shorts_0 38 rfl) (by decide) rfl ?_
      refine v_iload X 4 rfl (gD D_X12_shorts_0 39 rfl) ?_
      refine v_iconst X (-1) (gD D_X12_shorts_0 40 rfl) (by decide) ?_
      refine v_icmp_eq X 82 (gD D_X12_shorts_0 41 rfl) (by decide) (fun c85 => ?_) (fun c85 => ?_)
      · replace hw := hw.1 c85
        refine v_iconst X 1 (gD D_X12_shorts_0 48 rfl) (by decide) ?_
        refine v_goto X 87 (gD D_X12_shorts_0 49 rfl) (by decide) ?_
        exact v_sub [0] [1, 2, 3, 4, 5, 6, 0] rfl rfl (t_X12_shorts_87 X hr hin htr ih a0 x1 x2 x4 x5 x6 x84 1 σ hw)
      · replace hw := hw.2 c85
        refine v_aload_n X 1 rfl (gD D_X12_shorts_0 42 rfl) rfl ?_
        refine v_getR X RX12 TX12 65 13 12 (by decide) rfl gin12 44 1244 RX12 (Or.inl rfl) 0 21 rfl rfl rfl (by decide) lk_fRX12_119 (gD D_X12_shorts_0 43 rfl) (fun o125 eo125 => ?_)
        replace hw := hw o125 eo125
        refine v_iload X 0 rfl (gD D_X12_shorts_0 44 rfl) ?_
        obtain ⟨a126, rfl, hw⟩ := hw
        obtain ⟨h127, hw⟩ := hw
        refine v_iald X 0 rfl (by decide) h127 (gD D_X12_shorts_0 45 rfl) ?_
        refine v_iload X 4 rfl (gD D_X12_shorts_0 46 rfl) ?_
        refine v_icmp_eq X 86 (gD D_X12_shorts_0 47 rfl) (by decide) (fun c128 => ?_) (fun c128 => ?_)
        · replace hw := hw.1 c128
          refine v_iconst X 0 (gD D_X12_shorts_0 50 rfl) (by decide) ?_
          exact v_sub [1] [1, 2, 3, 4, 5, 6, 0] rfl rfl (t_X12_shorts_87 X hr hin htr ih a0 x1 x2 x4 x5 x6 x84 0 σ hw)
        · replace hw := hw.2 c128
          refine v_iconst X 1 (gD D_X12_shorts_0 48 rfl) (by decide) ?_
          refine v_goto X 87 (gD D_X12_shorts_0 49 rfl) (by decide) ?_
          exact v_sub [1] [1, 2, 3, 4, 5, 6, 0] rfl rfl (t_X12_shorts_87 X hr hin htr ih a0 x1 x2 x4 x5 x6 x84 1 σ hw)
set_option maxRecDepth 100000 in
set_option maxHeartbeats 4000000 in
theorem c_X12_shorts {l : Launch} {G : GX} (htr : l.stackTraces = false) {σ : St} {a0 : Nat} {x1 : Int32} {x2 : Int32} {x3 : Int32} {x4 : Int32} {Q : St → Prop} (ht : tvOk σ [(some a0, 13)]) (hw : w_X12_shorts a0 x1 x2 x3 x4 σ Q) : MV l G 2 σ yX12_shorts cX12_shorts 10 2 0 0 [va_rf (some a0), .int x1, .int x2, .int x3, .int x4] Q := by
  unfold w_X12_shorts at hw
  refine m_start RX12 (by decide) htr ht (Nat.le_of_ble_eq_true rfl) rfl (lv := [(0, va_rf (some a0)), (1, .int x1), (2, .int x2), (3, .int x3), (4, .int x4)]) (d := 2) (fun p e s m args below meth c X hr hin => ?_)
  refine v_aload_n X 0 rfl (gD D_X12_shorts_0 0 rfl) rfl ?_
  refine v_iload_n X 1 rfl (gD D_X12_shorts_0 1 rfl) rfl ?_
  refine v_iload_n X 2 rfl (gD D_X12_shorts_0 2 rfl) rfl ?_
  refine v_iload_n X 3 rfl (gD D_X12_shorts_0 3 rfl) rfl ?_
  refine v_aload_n X 0 rfl (gD D_X12_shorts_0 4 rfl) rfl ?_
  refine v_getR X RX12 TX12 65 13 12 (by decide) rfl gin12 19 1219 RX12 (Or.inl rfl) 0 21 rfl rfl rfl (by decide) lk_fRX12_53 (gD D_X12_shorts_0 5 rfl) (fun o51 eo51 => ?_)
  replace hw := hw o51 eo51
  refine v_bipush X 12 (gD D_X12_shorts_0 6 rfl) (by decide) ?_
  refine v_iload_n X 1 rfl (gD D_X12_shorts_0 7 rfl) rfl ?_
  refine v_imul X (gD D_X12_shorts_0 8 rfl) ?_
  refine v_iload_n X 2 rfl (gD D_X12_shorts_0 9 rfl) rfl ?_
  refine v_iadd X (gD D_X12_shorts_0 10 rfl) ?_
  obtain ⟨a52, rfl, hw⟩ := hw
  obtain ⟨h53, hw⟩ := hw
  refine v_iald X 0 rfl (by decide) h53 (gD D_X12_shorts_0 11 rfl) ?_
  refine v_isub X (gD D_X12_shorts_0 12 rfl) ?_
  refine v_callVv X (As := [.int x1, .int x2, .int (x3 - (sA σ a52 ((12 * x1) + x2).toNatClampNeg))]) (rest := []) (nA := 3) 0 0 0 0 (fun ht => c_X12_books htr (ht.sub [1] rfl) hw) (Or.inl rfl) 1 (κ := 13) rfl (by decide) (rfl : gCl[12]? = some (RX12, TX12, 65)) lk_vRX12_250 (by decide +kernel) rfl rfl (by decide) (by decide) (by decide) rfl rfl (gD D_X12_shorts_0 13 rfl) (fun s55 hq _ _ => ?_)
  replace hw := hq
  clear hq
  refine v_iload_n X 3 rfl (gD D_X12_shorts_0 14 rfl) rfl ?_
  refine v_iload X 4 rfl (gD D_X12_shorts_0 15 rfl) ?_
  refine v_iconst X (-1) (gD D_X12_shorts_0 16 rfl) (by decide) ?_
  refine v_icmp_ne X 30 (gD D_X12_shorts_0 17 rfl) (by decide) (fun c56 => ?_) (fun c56 => ?_)
  · replace hw := hw.1 c56
    refine v_aload_n X 0 rfl (gD D_X12_shorts_0 20 rfl) rfl ?_
    refine v_getR X RX12 TX12 65 13 12 (by decide) rfl gin12 51 1251 RX12 (Or.inl rfl) 1 21 rfl rfl rfl (by decide) lk_fRX12_137 (gD D_X12_shorts_0 21 rfl) (fun o57 eo57 => ?_)
    replace hw := hw o57 eo57
    refine v_iload X 4 rfl (gD D_X12_shorts_0 22 rfl) ?_
    obtain ⟨a58, rfl, hw⟩ := hw
    obtain ⟨h59, hw⟩ := hw
    refine v_iald X 0 rfl (by decide) h59 (gD D_X12_shorts_0 23 rfl) ?_
    refine v_isub X (gD D_X12_shorts_0 24 rfl) ?_
    refine v_topi (fun x60 ex60 => ?_)
    replace hw := hw x60 ex60
    refine v_istore X [(5, .int x60), (0, va_rf (some a0)), (1, .int x1), (2, .int x2), (3, .int x3), (4, .int x4)] (gD D_X12_shorts_0 25 rfl) (by decide) rfl ?_
    refine v_iconst X 0 (gD D_X12_shorts_0 26 rfl) (by decide) ?_
    refine v_istore X [(6, .int 0), (5, .int x60), (0, va_rf (some a0)), (1, .int x1), (2, .int x2), (3, .int x3), (4, .int x4)] (gD D_X12_shorts_0 27 rfl) (by decide) rfl ?_
    obtain ⟨f129, hw⟩ := hw
    exact v_sub [2] [2, 3, 4, 6, 1, 0] rfl rfl (t_X12_shorts_43 X hr hin htr  f129 a0 x1 x2 x4 x60 0 s55 hw)
  · replace hw := hw.2 c56
    refine v_iconst X 0 (gD D_X12_shorts_0 18 rfl) (by decide) ?_
    refine v_goto X 37 (gD D_X12_shorts_0 19 rfl) (by decide) ?_
    refine v_isub X (gD D_X12_shorts_0 24 rfl) ?_
    refine v_topi (fun x130 ex130 => ?_)
    replace hw := hw x130 ex130
    refine v_istore X [(5, .int x130), (0, va_rf (some a0)), (1, .int x1), (2, .int x2), (3, .int x3), (4, .int x4)] (gD D_X12_shorts_0 25 rfl) (by decide) rfl ?_
    refine v_iconst X 0 (gD D_X12_shorts_0 26 rfl) (by decide) ?_
    refine v_istore X [(6, .int 0), (5, .int x130), (0, va_rf (some a0)), (1, .int x1), (2, .int x2), (3, .int x3), (4, .int x4)] (gD D_X12_shorts_0 27 rfl) (by decide) rfl ?_
    obtain ⟨f131, hw⟩ := hw
    exact v_sub [1] [2, 3, 4, 6, 1, 0] rfl rfl (t_X12_shorts_43 X hr hin htr  f131 a0 x1 x2 x4 x130 0 s55 hw)
set_option maxRecDepth 100000 in
set_option maxHeartbeats 4000000 in
theorem t_X12_taskAt_14 {p : Program} {l : Launch} {e : Env} {s : State} {m : MethodId} {args : Array Value} {below : List Frame} {meth : Method} {c : Code} {G : GX} {σ0 : St} {mc ms : Nat} {Q : Int32 → St → Prop} (X : VC p l (rmD 2 mc ms) s m args meth c G 2 mc ms 2 RX12 cX12_taskAt) (hr : meth.sig.returnType = (some .int)) (hin : meth.name = yX12_taskAt.name) (htr : l.stackTraces = false) : ∀ (a0 : Nat) (x1 : Int32) (as0 : Nat) (xs1 : Int32) (σ : St), w_X12_taskAt_14 Q  a0 x1 as0 xs1 σ → V p l e (rmD 2 mc ms) s m args below meth c (MQ below (va_Qi Q (gB G 2 σ0) (GA G)) args s mc ms (GA G)) G 2 σ0 mc ms 2 σ 0 0 [(some a0, 13), (some as0, 13)] 14 [(0, va_rf (some a0)), (1, .int x1)] [.int xs1, va_rf (some as0)] := by
  intro a0 x1 as0 xs1 σ hw
  unfold w_X12_taskAt_14 at hw
  refine v_callVi X (As := [.int xs1]) (rest := []) (nA := 1) 0 0 0 0 (fun ht => c_X12_holds htr (ht.sub [1] rfl) hw) (Or.inl rfl) 1 (κ := 13) rfl (by decide) (rfl : gCl[12]? = some (RX12, TX12, 65)) lk_vRX12_223 (by decide +kernel) rfl rfl (by decide) (by decide) (by decide) rfl rfl (gD D_X12_taskAt_0 8 rfl) (fun x54 s55 hq _ _ => ?_)
  replace hw := hq
  clear hq
  refine v_if_eq X 50 (gD D_X12_taskAt_0 9 rfl) (by decide) (fun c56 => ?_) (fun c56 => ?_)
  · replace hw := hw.1 c56
    refine v_iconst X 0 (gD D_X12_taskAt_0 29 rfl) (by decide) ?_
    exact v_iret X hr hw (gD D_X12_taskAt_0 30 rfl)
  · replace hw := hw.2 c56
    refine v_sipush X 1000 (gD D_X12_taskAt_0 10 rfl) (by decide) ?_
    refine v_aload_n X 0 rfl (gD D_X12_taskAt_0 11 rfl) rfl ?_
    refine v_getR X RX12 TX12 65 13 12 (by decide) rfl gin12 46 1246 RX12 (Or.inl rfl) 0 21 rfl rfl rfl (by decide) lk_fRX12_122 (gD D_X12_taskAt_0 12 rfl) (fun o57 eo57 => ?_)
    replace hw := hw o57 eo57
    refine v_iload_n X 1 rfl (gD D_X12_taskAt_0 13 rfl) rfl ?_
    obtain ⟨a58, rfl, hw⟩ := hw
    obtain ⟨h59, hw⟩ := hw
    refine v_iald X 0 rfl (by decide) h59 (gD D_X12_taskAt_0 14 rfl) ?_
    refine v_imul X (gD D_X12_taskAt_0 15 rfl) ?_
    refine v_bipush X 100 (gD D_X12_taskAt_0 16 rfl) (by decide) ?_
    refine v_aload_n X 0 rfl (gD D_X12_taskAt_0 17 rfl) rfl ?_
    refine v_getR X RX12 TX12 65 13 12 (by decide) rfl gin12 52 1252 RX12 (Or.inl rfl) 1 21 rfl rfl rfl (by decide) lk_fRX12_140 (gD D_X12_taskAt_0 18 rfl) (fun o60 eo60 => ?_)
    replace hw := hw o60 eo60
    refine v_iload_n X 1 rfl (gD D_X12_taskAt_0 19 rfl) rfl ?_
    obtain ⟨a61, rfl, hw⟩ := hw
    obtain ⟨h62, hw⟩ := hw
    refine v_iald X 0 rfl (by decide) h62 (gD D_X12_taskAt_0 20 rfl) ?_
    refine v_imul X (gD D_X12_taskAt_0 21 rfl) ?_
    refine v_iadd X (gD D_X12_taskAt_0 22 rfl) ?_
    refine v_aload_n X 0 rfl (gD D_X12_taskAt_0 23 rfl) rfl ?_
    refine v_getR X RX12 TX12 65 13 12 (by decide) rfl gin12 51 1251 RX12 (Or.inl rfl) 2 21 rfl rfl rfl (by decide) lk_fRX12_137 (gD D_X12_taskAt_0 24 rfl) (fun o63 eo63 => ?_)
    replace hw := hw o63 eo63
    refine v_iload_n X 1 rfl (gD D_X12_taskAt_0 25 rfl) rfl ?_
    obtain ⟨a64, rfl, hw⟩ := hw
    obtain ⟨h65, hw⟩ := hw
    refine v_iald X 0 rfl (by decide) h65 (gD D_X12_taskAt_0 26 rfl) ?_
    refine v_iadd X (gD D_X12_taskAt_0 27 rfl) ?_
    refine v_goto X 51 (gD D_X12_taskAt_0 28 rfl) (by decide) ?_
    exact v_iret X hr hw (gD D_X12_taskAt_0 30 rfl)
set_option maxRecDepth 100000 in
set_option maxHeartbeats 4000000 in
theorem c_X12_taskAt {l : Launch} {G : GX} (htr : l.stackTraces = false) {σ : St} {a0 : Nat} {x1 : Int32} {Q : Int32 → St → Prop} (ht : tvOk σ [(some a0, 13)]) (hw : w_X12_taskAt a0 x1 σ Q) : MI l G 2 σ yX12_taskAt cX12_taskAt 2 (some .int) 2 0 0 [va_rf (some a0), .int x1] Q := by
  unfold w_X12_taskAt at hw
  refine m_start RX12 (by decide) htr ht (Nat.le_of_ble_eq_true rfl) rfl (lv := [(0, va_rf (some a0)), (1, .int x1)]) (d := 2) (fun p e s m args below meth c X hr hin => ?_)
  refine v_aload_n X 0 rfl (gD D_X12_taskAt_0 0 rfl) rfl ?_
  refine v_aload_n X 0 rfl (gD D_X12_taskAt_0 1 rfl) rfl ?_
  refine v_iload_n X 1 rfl (gD D_X12_taskAt_0 2 rfl) rfl ?_
  refine v_callVi X (As := [.int x1]) (rest := [va_rf (some a0)]) (nA := 1) 0 0 0 0 (fun ht => c_X12_isTask htr (ht.sub [0] rfl) hw) (Or.inl rfl) 0 (κ := 13) rfl (by decide) (rfl : gCl[12]? = some (RX12, TX12, 65)) lk_vRX12_321 (by decide +kernel) rfl rfl (by simp [rf_cat, ct_i]) (by decide) (by decide) rfl rfl (gD D_X12_taskAt_0 3 rfl) (fun x51 s52 hq _ _ => ?_)
  replace hw := hq
  clear hq
  refine v_if_eq X 13 (gD D_X12_taskAt_0 4 rfl) (by decide) (fun c53 => ?_) (fun c53 => ?_)
  · replace hw := hw.1 c53
    refine v_iconst X 1 (gD D_X12_taskAt_0 7 rfl) (by decide) ?_
    exact v_sub [0, 0] [0, 1] rfl rfl (t_X12_taskAt_14 X hr hin htr  a0 x1 a0 1 s52 hw)
  · replace hw := hw.2 c53
    refine v_iconst X 0 (gD D_X12_taskAt_0 5 rfl) (by decide) ?_
    refine v_goto X 14 (gD D_X12_taskAt_0 6 rfl) (by decide) ?_
    exact v_sub [0, 0] [0, 1] rfl rfl (t_X12_taskAt_14 X hr hin htr  a0 x1 a0 0 s52 hw)
set_option maxRecDepth 100000 in
set_option maxHeartbeats 4000000 in
theorem t_X12_wave_92 {p : Program} {l : Launch} {e : Env} {s : State} {m : MethodId} {args : Array Value} {below : List Frame} {meth : Method} {c : Code} {G : GX} {σ0 : St} {mc ms : Nat} {Q : Int32 → St → Prop} (X : VC p l (rmD 2 mc ms) s m args meth c G 2 mc ms 8 RX12 cX12_wave) (hr : meth.sig.returnType = (some .int)) (hin : meth.name = yX12_wave.name) (htr : l.stackTraces = false) : ∀ (f : Nat) (a0 : Nat) (x1 : Int32) (x2 : Int32) (x6 : Int32) (x7 : Int32) (σ : St), w_X12_wave_92 Q  f a0 x1 x2 x6 x7 σ → V p l e (rmD 2 mc ms) s m args below meth c (MQ below (va_Qi Q (gB G 2 σ0) (GA G)) args s mc ms (GA G)) G 2 σ0 mc ms 8 σ 0 0 [(some a0, 13)] 92 [(0, va_rf (some a0)), (1, .int x1), (2, .int x2), (6, .int x6), (7, .int x7)] [] := by
  intro f
  induction f with
  | zero => intro a0 x1 x2 x6 x7 σ hw; exact hw.elim
  | succ f ih =>
    intro a0 x1 x2 x6 x7 σ hw
    unfold w_X12_wave_92 at hw
    refine v_iload X 4 rfl (gD D_X12_wave_0 48 rfl) ?_
    refine v_bipush X 18 (gD D_X12_wave_0 49 rfl) (by decide) ?_
    refine v_icmp_ge X 121 (gD D_X12_wave_0 50 rfl) (by decide) (fun c64 => ?_) (fun c64 => ?_)
    · replace hw := hw.1 c64
      refine v_iload X 3 rfl (gD D_X12_wave_0 61 rfl) ?_
      exact v_iret X hr hw (gD D_X12_wave_0 62 rfl)
    · replace hw := hw.2 c64
      refine v_iload X 3 rfl (gD D_X12_wave_0 51 rfl) ?_
      refine v_if_le X 121 (gD D_X12_wave_0 52 rfl) (by decide) (fun c65 => ?_) (fun c65 => ?_)
      · replace hw := hw.1 c65
        refine v_iload X 3 rfl (gD D_X12_wave_0 61 rfl) ?_
        exact v_iret X hr hw (gD D_X12_wave_0 62 rfl)
      · replace hw := hw.2 c65
        refine v_aload_n X 0 rfl (gD D_X12_wave_0 53 rfl) rfl ?_
        refine v_iload_n X 1 rfl (gD D_X12_wave_0 54 rfl) rfl ?_
        refine v_iload_n X 2 rfl (gD D_X12_wave_0 55 rfl) rfl ?_
        refine v_iload X 4 rfl (gD D_X12_wave_0 56 rfl) ?_
        refine v_callSi X (As := [.int x7]) (rest := [.int x2, .int x1, va_rf (some a0)]) (nA := 1) 0 0 0 0 (fun ht => c_X12_slotAt htr (ht.sub [] rfl) hw) (Or.inl rfl) lk_sRX12_315 (by decide +kernel) rfl rfl (by simp [rf_cat, ct_i]) (by decide) (by decide) rfl rfl (gD D_X12_wave_0 57 rfl) (fun x66 s67 hq _ _ => ?_)
        replace hw := hq
        clear hq
        refine v_callVv X (As := [.int x1, .int x2, .int x66]) (rest := []) (nA := 3) 0 0 0 0 (fun ht => c_X12_makesPicks htr (ht.sub [0] rfl) hw) (Or.inl rfl) 0 (κ := 13) rfl (by decide) (rfl : gCl[12]? = some (RX12, TX12, 65)) lk_vRX12_318 (by decide +kernel) rfl rfl (by decide) (by decide) (by decide) rfl rfl (gD D_X12_wave_0 58 rfl) (fun s69 hq _ _ => ?_)
        replace hw := hq
        clear hq
        refine v_iinc X (x7 + 1) 4 rfl [(7, .int (x7 + 1)), (0, va_rf (some a0)), (1, .int x1), (2, .int x2), (6, .int x6)] (gD D_X12_wave_0 59 rfl) rfl (by decide) rfl ?_
        refine v_goto X 92 (gD D_X12_wave_0 60 rfl) (by decide) ?_
        exact v_sub [0] [1, 2, 3, 4, 0] rfl rfl (ih a0 x1 x2 x6 (x7 + 1) s69 hw)
set_option maxRecDepth 100000 in
set_option maxHeartbeats 4000000 in
theorem t_X12_wave_74 {p : Program} {l : Launch} {e : Env} {s : State} {m : MethodId} {args : Array Value} {below : List Frame} {meth : Method} {c : Code} {G : GX} {σ0 : St} {mc ms : Nat} {Q : Int32 → St → Prop} (X : VC p l (rmD 2 mc ms) s m args meth c G 2 mc ms 8 RX12 cX12_wave) (hr : meth.sig.returnType = (some .int)) (hin : meth.name = yX12_wave.name) (htr : l.stackTraces = false) : ∀ (a0 : Nat) (x1 : Int32) (x2 : Int32) (as0 : Nat) (xs1 : Int32) (σ : St), w_X12_wave_74 Q  a0 x1 x2 as0 xs1 σ → V p l e (rmD 2 mc ms) s m args below meth c (MQ below (va_Qi Q (gB G 2 σ0) (GA G)) args s mc ms (GA G)) G 2 σ0 mc ms 8 σ 0 0 [(some a0, 13), (some as0, 13)] 74 [(0, va_rf (some a0)), (1, .int x1), (2, .int x2)] [.int xs1, va_rf (some as0)] := by
  intro a0 x1 x2 as0 xs1 σ hw
  unfold w_X12_wave_74 at hw
  refine v_callVi X (As := [.int xs1]) (rest := []) (nA := 1) 0 0 0 0 (fun ht => c_X12_holds htr (ht.sub [1] rfl) hw) (Or.inl rfl) 1 (κ := 13) rfl (by decide) (rfl : gCl[12]? = some (RX12, TX12, 65)) lk_vRX12_223 (by decide +kernel) rfl rfl (by decide) (by decide) (by decide) rfl rfl (gD D_X12_wave_0 38 rfl) (fun x59 s60 hq _ _ => ?_)
  replace hw := hq
  clear hq
  refine v_if_ne X 82 (gD D_X12_wave_0 39 rfl) (by decide) (fun c61 => ?_) (fun c61 => ?_)
  · replace hw := hw.1 c61
    refine v_aload_n X 0 rfl (gD D_X12_wave_0 42 rfl) rfl ?_
    refine v_iload_n X 2 rfl (gD D_X12_wave_0 43 rfl) rfl ?_
    refine v_callVi X (As := [.int x2]) (rest := []) (nA := 1) 0 0 0 0 (fun ht => c_X12_picks htr (ht.sub [0] rfl) hw) (Or.inl rfl) 0 (κ := 13) rfl (by decide) (rfl : gCl[12]? = some (RX12, TX12, 65)) lk_vRX12_312 (by decide +kernel) rfl rfl (by decide) (by decide) (by decide) rfl rfl (gD D_X12_wave_0 44 rfl) (fun x62 s63 hq _ _ => ?_)
    replace hw := hq
    clear hq
    refine v_istore X [(6, .int x62), (0, va_rf (some a0)), (1, .int x1), (2, .int x2)] (gD D_X12_wave_0 45 rfl) (by decide) rfl ?_
    refine v_iconst X 0 (gD D_X12_wave_0 46 rfl) (by decide) ?_
    refine v_istore X [(7, .int 0), (6, .int x62), (0, va_rf (some a0)), (1, .int x1), (2, .int x2)] (gD D_X12_wave_0 47 rfl) (by decide) rfl ?_
    obtain ⟨f70, hw⟩ := hw
    exact v_sub [0] [2, 3, 4, 1, 0] rfl rfl (t_X12_wave_92 X hr hin htr  f70 a0 x1 x2 x62 0 s63 hw)
  · replace hw := hw.2 c61
    refine v_iconst X 0 (gD D_X12_wave_0 40 rfl) (by decide) ?_
    exact v_iret X hr hw (gD D_X12_wave_0 41 rfl)
set_option maxRecDepth 100000 in
set_option maxHeartbeats 4000000 in
theorem t_X12_wave_44 {p : Program} {l : Launch} {e : Env} {s : State} {m : MethodId} {args : Array Value} {below : List Frame} {meth : Method} {c : Code} {G : GX} {σ0 : St} {mc ms : Nat} {Q : Int32 → St → Prop} (X : VC p l (rmD 2 mc ms) s m args meth c G 2 mc ms 8 RX12 cX12_wave) (hr : meth.sig.returnType = (some .int)) (hin : meth.name = yX12_wave.name) (htr : l.stackTraces = false) : ∀ (a0 : Nat) (x1 : Int32) (x2 : Int32) (x3 : Int32) (x4 : Int32) (xs0 : Int32) (σ : St), w_X12_wave_44 Q  a0 x1 x2 x3 x4 xs0 σ → V p l e (rmD 2 mc ms) s m args below meth c (MQ below (va_Qi Q (gB G 2 σ0) (GA G)) args s mc ms (GA G)) G 2 σ0 mc ms 8 σ 0 0 [(some a0, 13)] 44 [(0, va_rf (some a0)), (1, .int x1), (2, .int x2), (3, .int x3), (4, .int x4)] [.int xs0] := by
  intro a0 x1 x2 x3 x4 xs0 σ hw
  unfold w_X12_wave_44 at hw
  refine v_istore X [(5, .int xs0), (0, va_rf (some a0)), (1, .int x1), (2, .int x2), (3, .int x3), (4, .int x4)] (gD D_X12_wave_0 23 rfl) (by decide) rfl ?_
  refine v_aload_n X 1 rfl (gD D_X12_wave_0 24 rfl) rfl ?_
  refine v_iload_n X 4 rfl (gD D_X12_wave_0 25 rfl) rfl ?_
  refine v_if_ne X 55 (gD D_X12_wave_0 26 rfl) (by decide) (fun c56 => ?_) (fun c56 => ?_)
  · replace hw := hw.1 c56
    refine v_iload X 5 rfl (gD D_X12_wave_0 29 rfl) ?_
    refine v_if_ne X 64 (gD D_X12_wave_0 30 rfl) (by decide) (fun c57 => ?_) (fun c57 => ?_)
    · replace hw := hw.1 c57
      refine v_iload X 0 rfl (gD D_X12_wave_0 33 rfl) ?_
      refine v_if_eq X 73 (gD D_X12_wave_0 34 rfl) (by decide) (fun c58 => ?_) (fun c58 => ?_)
      · replace hw := hw.1 c58
        refine v_iconst X 3 (gD D_X12_wave_0 37 rfl) (by decide) ?_
        exact v_sub [0, 0] [1, 2, 3] rfl rfl (t_X12_wave_74 X hr hin htr  a0 x1 x2 a0 3 σ hw)
      · replace hw := hw.2 c58
        refine v_iconst X 0 (gD D_X12_wave_0 35 rfl) (by decide) ?_
        refine v_goto X 74 (gD D_X12_wave_0 36 rfl) (by decide) ?_
        exact v_sub [0, 0] [1, 2, 3] rfl rfl (t_X12_wave_74 X hr hin htr  a0 x1 x2 a0 0 σ hw)
    · replace hw := hw.2 c57
      refine v_iconst X 2 (gD D_X12_wave_0 31 rfl) (by decide) ?_
      refine v_goto X 74 (gD D_X12_wave_0 32 rfl) (by decide) ?_
      exact v_sub [0, 0] [1, 2, 3] rfl rfl (t_X12_wave_74 X hr hin htr  a0 x1 x2 a0 2 σ hw)
  · replace hw := hw.2 c56
    refine v_iconst X 1 (gD D_X12_wave_0 27 rfl) (by decide) ?_
    refine v_goto X 74 (gD D_X12_wave_0 28 rfl) (by decide) ?_
    exact v_sub [0, 0] [1, 2, 3] rfl rfl (t_X12_wave_74 X hr hin htr  a0 x1 x2 a0 1 σ hw)
set_option maxRecDepth 100000 in
set_option maxHeartbeats 4000000 in
theorem t_X12_wave_43 {p : Program} {l : Launch} {e : Env} {s : State} {m : MethodId} {args : Array Value} {below : List Frame} {meth : Method} {c : Code} {G : GX} {σ0 : St} {mc ms : Nat} {Q : Int32 → St → Prop} (X : VC p l (rmD 2 mc ms) s m args meth c G 2 mc ms 8 RX12 cX12_wave) (hr : meth.sig.returnType = (some .int)) (hin : meth.name = yX12_wave.name) (htr : l.stackTraces = false) : ∀ (a0 : Nat) (x1 : Int32) (x2 : Int32) (x3 : Int32) (x4 : Int32) (σ : St), w_X12_wave_43 Q  a0 x1 x2 x3 x4 σ → V p l e (rmD 2 mc ms) s m args below meth c (MQ below (va_Qi Q (gB G 2 σ0) (GA G)) args s mc ms (GA G)) G 2 σ0 mc ms 8 σ 0 0 [(some a0, 13)] 43 [(0, va_rf (some a0)), (1, .int x1), (2, .int x2), (3, .int x3), (4, .int x4)] [] := by
  intro a0 x1 x2 x3 x4 σ hw
  unfold w_X12_wave_43 at hw
  refine v_iconst X 0 (gD D_X12_wave_0 22 rfl) (by decide) ?_
  exact v_sub [0] [0, 1, 2, 3, 4] rfl rfl (t_X12_wave_44 X hr hin htr  a0 x1 x2 x3 x4 0 σ hw)
set_option maxRecDepth 100000 in
set_option maxHeartbeats 4000000 in
theorem c_X12_wave {l : Launch} {G : GX} (htr : l.stackTraces = false) {σ : St} {a0 : Nat} {x1 : Int32} {x2 : Int32} {Q : Int32 → St → Prop} (ht : tvOk σ [(some a0, 13)]) (hw : w_X12_wave a0 x1 x2 σ Q) : MI l G 2 σ yX12_wave cX12_wave 8 (some .int) 2 0 0 [va_rf (some a0), .int x1, .int x2] Q := by
  unfold w_X12_wave at hw
  refine m_start RX12 (by decide) htr ht (Nat.le_of_ble_eq_true rfl) rfl (lv := [(0, va_rf (some a0)), (1, .int x1), (2, .int x2)]) (d := 2) (fun p e s m args below meth c X hr hin => ?_)
  refine v_iload_n X 1 rfl (gD D_X12_wave_0 0 rfl) rfl ?_
  refine v_callSi X (As := [.int x1]) (rest := []) (nA := 1) 0 0 0 0 (fun ht => c_X12_isRobot htr (ht.sub [] rfl) hw) (Or.inl rfl) lk_sRX12_309 (by decide +kernel) rfl rfl (by decide) (by decide) (by decide) rfl rfl (gD D_X12_wave_0 1 rfl) (fun x51 s52 hq _ _ => ?_)
  replace hw := hq
  clear hq
  refine v_istore_n X [(3, .int x51), (0, va_rf (some a0)), (1, .int x1), (2, .int x2)] (gD D_X12_wave_0 2 rfl) rfl (by decide) rfl ?_
  refine v_iload_n X 3 rfl (gD D_X12_wave_0 3 rfl) rfl ?_
  refine v_iconst X 1 (gD D_X12_wave_0 4 rfl) (by decide) ?_
  refine v_sipush X 255 (gD D_X12_wave_0 5 rfl) (by decide) ?_
  refine v_callSi X (As := [.int x2, .int 1, .int 255]) (rest := []) (nA := 3) 0 0 0 0 (fun ht => c_X12_isIn htr (ht.sub [] rfl) hw) (Or.inl rfl) lk_sRX12_183 (by decide +kernel) rfl rfl (by decide) (by decide) (by decide) rfl rfl (gD D_X12_wave_0 6 rfl) (fun x53 s54 hq _ _ => ?_)
  replace hw := hq
  clear hq
  refine v_istore X [(4, .int x53), (3, .int x51), (0, va_rf (some a0)), (1, .int x1), (2, .int x2)] (gD D_X12_wave_0 7 rfl) (by decide) rfl ?_
  refine v_iload_n X 1 rfl (gD D_X12_wave_0 8 rfl) rfl ?_
  refine v_if_eq X 43 (gD D_X12_wave_0 9 rfl) (by decide) (fun c55 => ?_) (fun c55 => ?_)
  · replace hw := hw.1 c55
    exact v_sub [0] [2, 3, 4, 1, 0] rfl rfl (t_X12_wave_43 X hr hin htr  a0 x1 x2 x51 x53 s54 hw)
  · replace hw := hw.2 c55
    refine v_iload X 0 rfl (gD D_X12_wave_0 10 rfl) ?_
    refine v_if_eq X 43 (gD D_X12_wave_0 11 rfl) (by decide) (fun c71 => ?_) (fun c71 => ?_)
    · replace hw := hw.1 c71
      exact v_sub [0] [2, 3, 4, 1, 0] rfl rfl (t_X12_wave_43 X hr hin htr  a0 x1 x2 x51 x53 s54 hw)
    · replace hw := hw.2 c71
      refine v_aload_n X 2 rfl (gD D_X12_wave_0 12 rfl) rfl ?_
      refine v_getI X RX12 TX12 65 13 12 (by decide) rfl gin12 45 1245 RX12 (Or.inl rfl) 0 rfl rfl (by decide) lk_fRX12_196 (gD D_X12_wave_0 13 rfl) ?_
      refine v_aload_n X 2 rfl (gD D_X12_wave_0 14 rfl) rfl ?_
      refine v_iload_n X 4 rfl (gD D_X12_wave_0 15 rfl) rfl ?_
      refine v_callVi X (As := [.int x2]) (rest := [.int (sI s54 1245 a0)]) (nA := 1) 0 0 0 0 (fun ht => c_X12_picks htr (ht.sub [0] rfl) hw) (Or.inl rfl) 0 (κ := 13) rfl (by decide) (rfl : gCl[12]? = some (RX12, TX12, 65)) lk_vRX12_312 (by decide +kernel) rfl rfl (by simp [rf_cat, ct_i]) (by decide) (by decide) rfl rfl (gD D_X12_wave_0 16 rfl) (fun x72 s73 hq _ _ => ?_)
      replace hw := hq
      clear hq
      refine v_iadd X (gD D_X12_wave_0 17 rfl) ?_
      refine v_bipush X 60 (gD D_X12_wave_0 18 rfl) (by decide) ?_
      refine v_icmp_gt X 43 (gD D_X12_wave_0 19 rfl) (by decide) (fun c74 => ?_) (fun c74 => ?_)
      · replace hw := hw.1 c74
        exact v_sub [0] [2, 3, 4, 1, 0] rfl rfl (t_X12_wave_43 X hr hin htr  a0 x1 x2 x51 x53 s73 hw)
      · replace hw := hw.2 c74
        refine v_iconst X 1 (gD D_X12_wave_0 20 rfl) (by decide) ?_
        refine v_goto X 44 (gD D_X12_wave_0 21 rfl) (by decide) ?_
        exact v_sub [0] [2, 3, 4, 1, 0] rfl rfl (t_X12_wave_44 X hr hin htr  a0 x1 x2 x51 x53 1 s73 hw)
set_option maxRecDepth 100000 in
set_option maxHeartbeats 4000000 in
theorem t_X12_where_13 {p : Program} {l : Launch} {e : Env} {s : State} {m : MethodId} {args : Array Value} {below : List Frame} {meth : Method} {c : Code} {G : GX} {σ0 : St} {mc ms : Nat} {Q : Int32 → St → Prop} (X : VC p l (rmD 2 mc ms) s m args meth c G 2 mc ms 2 RX12 cX12_where) (hr : meth.sig.returnType = (some .int)) (hin : meth.name = yX12_where.name) (htr : l.stackTraces = false) : ∀ (a0 : Nat) (x1 : Int32) (as0 : Nat) (xs1 : Int32) (σ : St), w_X12_where_13 Q  a0 x1 as0 xs1 σ → V p l e (rmD 2 mc ms) s m args below meth c (MQ below (va_Qi Q (gB G 2 σ0) (GA G)) args s mc ms (GA G)) G 2 σ0 mc ms 2 σ 0 0 [(some a0, 13), (some as0, 13)] 13 [(0, va_rf (some a0)), (1, .int x1)] [.int xs1, va_rf (some as0)] := by
  intro a0 x1 as0 xs1 σ hw
  unfold w_X12_where_13 at hw
  refine v_callVi X (As := [.int xs1]) (rest := []) (nA := 1) 0 0 0 0 (fun ht => c_X12_holds htr (ht.sub [1] rfl) hw) (Or.inl rfl) 1 (κ := 13) rfl (by decide) (rfl : gCl[12]? = some (RX12, TX12, 65)) lk_vRX12_223 (by decide +kernel) rfl rfl (by decide) (by decide) (by decide) rfl rfl (gD D_X12_where_0 7 rfl) (fun x54 s55 hq _ _ => ?_)
  replace hw := hq
  clear hq
  refine v_if_ne X 21 (gD D_X12_where_0 8 rfl) (by decide) (fun c56 => ?_) (fun c56 => ?_)
  · replace hw := hw.1 c56
    refine v_aload_n X 0 rfl (gD D_X12_where_0 11 rfl) rfl ?_
    refine v_getR X RX12 TX12 65 13 12 (by decide) rfl gin12 55 1255 RX12 (Or.inl rfl) 0 21 rfl rfl rfl (by decide) lk_fRX12_149 (gD D_X12_where_0 12 rfl) (fun o57 eo57 => ?_)
    replace hw := hw o57 eo57
    refine v_iload_n X 1 rfl (gD D_X12_where_0 13 rfl) rfl ?_
    obtain ⟨a58, rfl, hw⟩ := hw
    obtain ⟨h59, hw⟩ := hw
    refine v_iald X 0 rfl (by decide) h59 (gD D_X12_where_0 14 rfl) ?_
    refine v_iconst X (-1) (gD D_X12_where_0 15 rfl) (by decide) ?_
    refine v_icmp_ne X 35 (gD D_X12_where_0 16 rfl) (by decide) (fun c60 => ?_) (fun c60 => ?_)
    · replace hw := hw.1 c60
      refine v_bipush X 10 (gD D_X12_where_0 19 rfl) (by decide) ?_
      refine v_aload_n X 0 rfl (gD D_X12_where_0 20 rfl) rfl ?_
      refine v_getR X RX12 TX12 65 13 12 (by decide) rfl gin12 55 1255 RX12 (Or.inl rfl) 1 21 rfl rfl rfl (by decide) lk_fRX12_149 (gD D_X12_where_0 21 rfl) (fun o61 eo61 => ?_)
      replace hw := hw o61 eo61
      refine v_iload_n X 1 rfl (gD D_X12_where_0 22 rfl) rfl ?_
      obtain ⟨a62, rfl, hw⟩ := hw
      obtain ⟨h63, hw⟩ := hw
      refine v_iald X 0 rfl (by decide) h63 (gD D_X12_where_0 23 rfl) ?_
      refine v_imul X (gD D_X12_where_0 24 rfl) ?_
      refine v_aload_n X 0 rfl (gD D_X12_where_0 25 rfl) rfl ?_
      refine v_getR X RX12 TX12 65 13 12 (by decide) rfl gin12 56 1256 RX12 (Or.inl rfl) 2 21 rfl rfl rfl (by decide) lk_fRX12_152 (gD D_X12_where_0 26 rfl) (fun o64 eo64 => ?_)
      replace hw := hw o64 eo64
      refine v_iload_n X 1 rfl (gD D_X12_where_0 27 rfl) rfl ?_
      obtain ⟨a65, rfl, hw⟩ := hw
      obtain ⟨h66, hw⟩ := hw
      refine v_iald X 0 rfl (by decide) h66 (gD D_X12_where_0 28 rfl) ?_
      refine v_iadd X (gD D_X12_where_0 29 rfl) ?_
      exact v_iret X hr hw (gD D_X12_where_0 30 rfl)
    · replace hw := hw.2 c60
      refine v_iconst X (-1) (gD D_X12_where_0 17 rfl) (by decide) ?_
      refine v_goto X 51 (gD D_X12_where_0 18 rfl) (by decide) ?_
      exact v_iret X hr hw (gD D_X12_where_0 30 rfl)
  · replace hw := hw.2 c56
    refine v_iconst X 0 (gD D_X12_where_0 9 rfl) (by decide) ?_
    exact v_iret X hr hw (gD D_X12_where_0 10 rfl)
set_option maxRecDepth 100000 in
set_option maxHeartbeats 4000000 in
theorem c_X12_where {l : Launch} {G : GX} (htr : l.stackTraces = false) {σ : St} {a0 : Nat} {x1 : Int32} {Q : Int32 → St → Prop} (ht : tvOk σ [(some a0, 13)]) (hw : w_X12_where a0 x1 σ Q) : MI l G 2 σ yX12_where cX12_where 2 (some .int) 2 0 0 [va_rf (some a0), .int x1] Q := by
  unfold w_X12_where at hw
  refine m_start RX12 (by decide) htr ht (Nat.le_of_ble_eq_true rfl) rfl (lv := [(0, va_rf (some a0)), (1, .int x1)]) (d := 2) (fun p e s m args below meth c X hr hin => ?_)
  refine v_aload_n X 0 rfl (gD D_X12_where_0 0 rfl) rfl ?_
  refine v_iload_n X 1 rfl (gD D_X12_where_0 1 rfl) rfl ?_
  refine v_callSi X (As := [.int x1]) (rest := [va_rf (some a0)]) (nA := 1) 0 0 0 0 (fun ht => c_X12_isRobot htr (ht.sub [] rfl) hw) (Or.inl rfl) lk_sRX12_309 (by decide +kernel) rfl rfl (by simp [rf_cat, ct_i]) (by decide) (by decide) rfl rfl (gD D_X12_where_0 2 rfl) (fun x51 s52 hq _ _ => ?_)
  replace hw := hq
  clear hq
  refine v_if_eq X 12 (gD D_X12_where_0 3 rfl) (by decide) (fun c53 => ?_) (fun c53 => ?_)
  · replace hw := hw.1 c53
    refine v_iconst X 1 (gD D_X12_where_0 6 rfl) (by decide) ?_
    exact v_sub [0, 0] [0, 1] rfl rfl (t_X12_where_13 X hr hin htr  a0 x1 a0 1 s52 hw)
  · replace hw := hw.2 c53
    refine v_iconst X 0 (gD D_X12_where_0 4 rfl) (by decide) ?_
    refine v_goto X 13 (gD D_X12_where_0 5 rfl) (by decide) ?_
    exact v_sub [0, 0] [0, 1] rfl rfl (t_X12_where_13 X hr hin htr  a0 x1 a0 0 s52 hw)
set_option maxRecDepth 100000 in
set_option maxHeartbeats 4000000 in
theorem t_X12_boxAt_39 {p : Program} {l : Launch} {e : Env} {s : State} {m : MethodId} {args : Array Value} {below : List Frame} {meth : Method} {c : Code} {G : GX} {σ0 : St} {mc ms : Nat} {Q : Int32 → St → Prop} (X : VC p l (rmD 3 mc ms) s m args meth c G 3 mc ms 4 RX12 cX12_boxAt) (hr : meth.sig.returnType = (some .int)) (hin : meth.name = yX12_boxAt.name) (htr : l.stackTraces = false) : ∀ (a0 : Nat) (x1 : Int32) (x2 : Int32) (as0 : Nat) (xs1 : Int32) (σ : St), w_X12_boxAt_39 Q  a0 x1 x2 as0 xs1 σ → V p l e (rmD 3 mc ms) s m args below meth c (MQ below (va_Qi Q (gB G 2 σ0) (GA G)) args s mc ms (GA G)) G 2 σ0 mc ms 4 σ 0 0 [(some a0, 13), (some as0, 13)] 39 [(0, va_rf (some a0)), (1, .int x1), (2, .int x2)] [.int xs1, va_rf (some as0)] := by
  intro a0 x1 x2 as0 xs1 σ hw
  unfold w_X12_boxAt_39 at hw
  refine v_callVi X (As := [.int xs1]) (rest := []) (nA := 1) 0 0 0 0 (fun ht => c_X12_holds htr (ht.sub [1] rfl) hw) (Or.inl rfl) 1 (κ := 13) rfl (by decide) (rfl : gCl[12]? = some (RX12, TX12, 65)) lk_vRX12_223 (by decide +kernel) rfl rfl (by decide) (by decide) (by decide) rfl rfl (gD D_X12_boxAt_0 23 rfl) (fun x55 s56 hq _ _ => ?_)
  replace hw := hq
  clear hq
  refine v_if_ne X 47 (gD D_X12_boxAt_0 24 rfl) (by decide) (fun c57 => ?_) (fun c57 => ?_)
  · replace hw := hw.1 c57
    refine v_aload_n X 0 rfl (gD D_X12_boxAt_0 27 rfl) rfl ?_
    refine v_getR X RX12 TX12 65 13 12 (by decide) rfl gin12 32 1232 RX12 (Or.inl rfl) 0 22 rfl rfl rfl (by decide) lk_fRX12_86 (gD D_X12_boxAt_0 28 rfl) (fun o58 eo58 => ?_)
    replace hw := hw o58 eo58
    refine v_iload_n X 1 rfl (gD D_X12_boxAt_0 29 rfl) rfl ?_
    obtain ⟨a59, rfl, hw⟩ := hw
    obtain ⟨h60, hw⟩ := hw
    refine v_zald X 0 rfl rfl h60 (gD D_X12_boxAt_0 30 rfl) ?_
    refine v_if_eq X 71 (gD D_X12_boxAt_0 31 rfl) (by decide) (fun c61 => ?_) (fun c61 => ?_)
    · replace hw := hw.1 c61
      refine v_sipush X 1000 (gD D_X12_boxAt_0 41 rfl) (by decide) ?_
      refine v_aload_n X 0 rfl (gD D_X12_boxAt_0 42 rfl) rfl ?_
      refine v_getR X RX12 TX12 65 13 12 (by decide) rfl gin12 62 1262 RX12 (Or.inl rfl) 1 21 rfl rfl rfl (by decide) lk_fRX12_170 (gD D_X12_boxAt_0 43 rfl) (fun o62 eo62 => ?_)
      replace hw := hw o62 eo62
      refine v_iload_n X 2 rfl (gD D_X12_boxAt_0 44 rfl) rfl ?_
      obtain ⟨a63, rfl, hw⟩ := hw
      obtain ⟨h64, hw⟩ := hw
      refine v_iald X 0 rfl (by decide) h64 (gD D_X12_boxAt_0 45 rfl) ?_
      refine v_imul X (gD D_X12_boxAt_0 46 rfl) ?_
      refine v_aload_n X 0 rfl (gD D_X12_boxAt_0 47 rfl) rfl ?_
      refine v_getR X RX12 TX12 65 13 12 (by decide) rfl gin12 63 1263 RX12 (Or.inl rfl) 2 21 rfl rfl rfl (by decide) lk_fRX12_173 (gD D_X12_boxAt_0 48 rfl) (fun o65 eo65 => ?_)
      replace hw := hw o65 eo65
      refine v_iload_n X 2 rfl (gD D_X12_boxAt_0 49 rfl) rfl ?_
      obtain ⟨a66, rfl, hw⟩ := hw
      obtain ⟨h67, hw⟩ := hw
      refine v_iald X 0 rfl (by decide) h67 (gD D_X12_boxAt_0 50 rfl) ?_
      refine v_iadd X (gD D_X12_boxAt_0 51 rfl) ?_
      exact v_iret X hr hw (gD D_X12_boxAt_0 52 rfl)
    · replace hw := hw.2 c61
      refine v_aload_n X 0 rfl (gD D_X12_boxAt_0 32 rfl) rfl ?_
      refine v_getR X RX12 TX12 65 13 12 (by decide) rfl gin12 34 1234 RX12 (Or.inl rfl) 1 21 rfl rfl rfl (by decide) lk_fRX12_92 (gD D_X12_boxAt_0 33 rfl) (fun o68 eo68 => ?_)
      replace hw := hw o68 eo68
      refine v_sipush X 300 (gD D_X12_boxAt_0 34 rfl) (by decide) ?_
      refine v_iload_n X 1 rfl (gD D_X12_boxAt_0 35 rfl) rfl ?_
      refine v_imul X (gD D_X12_boxAt_0 36 rfl) ?_
      refine v_iload_n X 2 rfl (gD D_X12_boxAt_0 37 rfl) rfl ?_
      refine v_iadd X (gD D_X12_boxAt_0 38 rfl) ?_
      obtain ⟨a69, rfl, hw⟩ := hw
      obtain ⟨h70, hw⟩ := hw
      refine v_iald X 0 rfl (by decide) h70 (gD D_X12_boxAt_0 39 rfl) ?_
      refine v_goto X 88 (gD D_X12_boxAt_0 40 rfl) (by decide) ?_
      exact v_iret X hr hw (gD D_X12_boxAt_0 52 rfl)
  · replace hw := hw.2 c57
    refine v_iconst X 0 (gD D_X12_boxAt_0 25 rfl) (by decide) ?_
    exact v_iret X hr hw (gD D_X12_boxAt_0 26 rfl)
set_option maxRecDepth 100000 in
set_option maxHeartbeats 4000000 in
theorem t_X12_boxAt_28 {p : Program} {l : Launch} {e : Env} {s : State} {m : MethodId} {args : Array Value} {below : List Frame} {meth : Method} {c : Code} {G : GX} {σ0 : St} {mc ms : Nat} {Q : Int32 → St → Prop} (X : VC p l (rmD 3 mc ms) s m args meth c G 3 mc ms 4 RX12 cX12_boxAt) (hr : meth.sig.returnType = (some .int)) (hin : meth.name = yX12_boxAt.name) (htr : l.stackTraces = false) : ∀ (a0 : Nat) (x1 : Int32) (x2 : Int32) (xs0 : Int32) (σ : St), w_X12_boxAt_28 Q  a0 x1 x2 xs0 σ → V p l e (rmD 3 mc ms) s m args below meth c (MQ below (va_Qi Q (gB G 2 σ0) (GA G)) args s mc ms (GA G)) G 2 σ0 mc ms 4 σ 0 0 [(some a0, 13)] 28 [(0, va_rf (some a0)), (1, .int x1), (2, .int x2)] [.int xs0] := by
  intro a0 x1 x2 xs0 σ hw
  unfold w_X12_boxAt_28 at hw
  refine v_istore_n X [(3, .int xs0), (0, va_rf (some a0)), (1, .int x1), (2, .int x2)] (gD D_X12_boxAt_0 16 rfl) rfl (by decide) rfl ?_
  refine v_aload_n X 1 rfl (gD D_X12_boxAt_0 17 rfl) rfl ?_
  refine v_iload_n X 0 rfl (gD D_X12_boxAt_0 18 rfl) rfl ?_
  refine v_if_eq X 38 (gD D_X12_boxAt_0 19 rfl) (by decide) (fun c54 => ?_) (fun c54 => ?_)
  · replace hw := hw.1 c54
    refine v_iconst X 1 (gD D_X12_boxAt_0 22 rfl) (by decide) ?_
    exact v_sub [0, 0] [1, 2, 3] rfl rfl (t_X12_boxAt_39 X hr hin htr  a0 x1 x2 a0 1 σ hw)
  · replace hw := hw.2 c54
    refine v_iconst X 0 (gD D_X12_boxAt_0 20 rfl) (by decide) ?_
    refine v_goto X 39 (gD D_X12_boxAt_0 21 rfl) (by decide) ?_
    exact v_sub [0, 0] [1, 2, 3] rfl rfl (t_X12_boxAt_39 X hr hin htr  a0 x1 x2 a0 0 σ hw)
set_option maxRecDepth 100000 in
set_option maxHeartbeats 4000000 in
theorem t_X12_boxAt_27 {p : Program} {l : Launch} {e : Env} {s : State} {m : MethodId} {args : Array Value} {below : List Frame} {meth : Method} {c : Code} {G : GX} {σ0 : St} {mc ms : Nat} {Q : Int32 → St → Prop} (X : VC p l (rmD 3 mc ms) s m args meth c G 3 mc ms 4 RX12 cX12_boxAt) (hr : meth.sig.returnType = (some .int)) (hin : meth.name = yX12_boxAt.name) (htr : l.stackTraces = false) : ∀ (a0 : Nat) (x1 : Int32) (x2 : Int32) (σ : St), w_X12_boxAt_27 Q  a0 x1 x2 σ → V p l e (rmD 3 mc ms) s m args below meth c (MQ below (va_Qi Q (gB G 2 σ0) (GA G)) args s mc ms (GA G)) G 2 σ0 mc ms 4 σ 0 0 [(some a0, 13)] 27 [(0, va_rf (some a0)), (1, .int x1), (2, .int x2)] [] := by
  intro a0 x1 x2 σ hw
  unfold w_X12_boxAt_27 at hw
  refine v_iconst X 0 (gD D_X12_boxAt_0 15 rfl) (by decide) ?_
  exact v_sub [0] [0, 1, 2] rfl rfl (t_X12_boxAt_28 X hr hin htr  a0 x1 x2 0 σ hw)
set_option maxRecDepth 100000 in
set_option maxHeartbeats 4000000 in
theorem c_X12_boxAt {l : Launch} {G : GX} (htr : l.stackTraces = false) {σ : St} {a0 : Nat} {x1 : Int32} {x2 : Int32} {Q : Int32 → St → Prop} (ht : tvOk σ [(some a0, 13)]) (hw : w_X12_boxAt a0 x1 x2 σ Q) : MI l G 2 σ yX12_boxAt cX12_boxAt 4 (some .int) 3 0 0 [va_rf (some a0), .int x1, .int x2] Q := by
  unfold w_X12_boxAt at hw
  refine m_start RX12 (by decide) htr ht (Nat.le_of_ble_eq_true rfl) rfl (lv := [(0, va_rf (some a0)), (1, .int x1), (2, .int x2)]) (d := 2) (fun p e s m args below meth c X hr hin => ?_)
  refine v_aload_n X 0 rfl (gD D_X12_boxAt_0 0 rfl) rfl ?_
  refine v_iload_n X 1 rfl (gD D_X12_boxAt_0 1 rfl) rfl ?_
  refine v_callVi X (As := [.int x1]) (rest := []) (nA := 1) 0 0 0 0 (fun ht => c_X12_isOrder htr (ht.sub [0] rfl) hw) (Or.inl rfl) 0 (κ := 13) rfl (by decide) (rfl : gCl[12]? = some (RX12, TX12, 65)) lk_vRX12_287 (by decide +kernel) rfl rfl (by decide) (by decide) (by decide) rfl rfl (gD D_X12_boxAt_0 2 rfl) (fun x51 s52 hq _ _ => ?_)
  replace hw := hq
  clear hq
  refine v_if_eq X 27 (gD D_X12_boxAt_0 3 rfl) (by decide) (fun c53 => ?_) (fun c53 => ?_)
  · replace hw := hw.1 c53
    exact v_sub [0] [0, 1, 2] rfl rfl (t_X12_boxAt_27 X hr hin htr  a0 x1 x2 s52 hw)
  · replace hw := hw.2 c53
    refine v_iload_n X 2 rfl (gD D_X12_boxAt_0 4 rfl) rfl ?_
    refine v_iconst X 0 (gD D_X12_boxAt_0 5 rfl) (by decide) ?_
    refine v_aload_n X 0 rfl (gD D_X12_boxAt_0 6 rfl) rfl ?_
    refine v_iload_n X 1 rfl (gD D_X12_boxAt_0 7 rfl) rfl ?_
    refine v_callVi X (As := [.int x1]) (rest := [.int 0, .int x2]) (nA := 1) 0 0 0 0 (fun ht => c_X12_boxesOf htr (ht.sub [0] rfl) hw) (Or.inl rfl) 0 (κ := 13) rfl (by decide) (rfl : gCl[12]? = some (RX12, TX12, 65)) lk_vRX12_368 (by decide +kernel) rfl rfl (by simp [rf_cat, ct_i]) (by decide) (by decide) rfl rfl (gD D_X12_boxAt_0 8 rfl) (fun x71 s72 hq _ _ => ?_)
    replace hw := hq
    clear hq
    refine v_iconst X 1 (gD D_X12_boxAt_0 9 rfl) (by decide) ?_
    refine v_isub X (gD D_X12_boxAt_0 10 rfl) ?_
    refine v_callSi X (As := [.int x2, .int 0, .int (x71 - 1)]) (rest := []) (nA := 3) 0 0 0 0 (fun ht => c_X12_isIn htr (ht.sub [] rfl) hw) (Or.inl rfl) lk_sRX12_183 (by decide +kernel) rfl rfl (by decide) (by decide) (by decide) rfl rfl (gD D_X12_boxAt_0 11 rfl) (fun x73 s74 hq _ _ => ?_)
    replace hw := hq
    clear hq
    refine v_if_eq X 27 (gD D_X12_boxAt_0 12 rfl) (by decide) (fun c75 => ?_) (fun c75 => ?_)
    · replace hw := hw.1 c75
      exact v_sub [0] [0, 1, 2] rfl rfl (t_X12_boxAt_27 X hr hin htr  a0 x1 x2 s74 hw)
    · replace hw := hw.2 c75
      refine v_iconst X 1 (gD D_X12_boxAt_0 13 rfl) (by decide) ?_
      refine v_goto X 28 (gD D_X12_boxAt_0 14 rfl) (by decide) ?_
      exact v_sub [0] [0, 1, 2] rfl rfl (t_X12_boxAt_28 X hr hin htr  a0 x1 x2 1 s74 hw)
set_option maxRecDepth 100000 in
set_option maxHeartbeats 4000000 in
theorem t_X12_boxes_14 {p : Program} {l : Launch} {e : Env} {s : State} {m : MethodId} {args : Array Value} {below : List Frame} {meth : Method} {c : Code} {G : GX} {σ0 : St} {mc ms : Nat} {Q : Int32 → St → Prop} (X : VC p l (rmD 3 mc ms) s m args meth c G 3 mc ms 2 RX12 cX12_boxes) (hr : meth.sig.returnType = (some .int)) (hin : meth.name = yX12_boxes.name) (htr : l.stackTraces = false) : ∀ (a0 : Nat) (x1 : Int32) (as0 : Nat) (xs1 : Int32) (σ : St), w_X12_boxes_14 Q  a0 x1 as0 xs1 σ → V p l e (rmD 3 mc ms) s m args below meth c (MQ below (va_Qi Q (gB G 2 σ0) (GA G)) args s mc ms (GA G)) G 2 σ0 mc ms 2 σ 0 0 [(some a0, 13), (some as0, 13)] 14 [(0, va_rf (some a0)), (1, .int x1)] [.int xs1, va_rf (some as0)] := by
  intro a0 x1 as0 xs1 σ hw
  unfold w_X12_boxes_14 at hw
  refine v_callVi X (As := [.int xs1]) (rest := []) (nA := 1) 0 0 0 0 (fun ht => c_X12_holds htr (ht.sub [1] rfl) hw) (Or.inl rfl) 1 (κ := 13) rfl (by decide) (rfl : gCl[12]? = some (RX12, TX12, 65)) lk_vRX12_223 (by decide +kernel) rfl rfl (by decide) (by decide) (by decide) rfl rfl (gD D_X12_boxes_0 8 rfl) (fun x54 s55 hq _ _ => ?_)
  replace hw := hq
  clear hq
  refine v_if_eq X 28 (gD D_X12_boxes_0 9 rfl) (by decide) (fun c56 => ?_) (fun c56 => ?_)
  · replace hw := hw.1 c56
    refine v_iconst X 0 (gD D_X12_boxes_0 14 rfl) (by decide) ?_
    exact v_iret X hr hw (gD D_X12_boxes_0 15 rfl)
  · replace hw := hw.2 c56
    refine v_aload_n X 0 rfl (gD D_X12_boxes_0 10 rfl) rfl ?_
    refine v_iload_n X 1 rfl (gD D_X12_boxes_0 11 rfl) rfl ?_
    refine v_callVi X (As := [.int x1]) (rest := []) (nA := 1) 0 0 0 0 (fun ht => c_X12_boxesOf htr (ht.sub [0] rfl) hw) (Or.inl rfl) 0 (κ := 13) rfl (by decide) (rfl : gCl[12]? = some (RX12, TX12, 65)) lk_vRX12_368 (by decide +kernel) rfl rfl (by decide) (by decide) (by decide) rfl rfl (gD D_X12_boxes_0 12 rfl) (fun x57 s58 hq _ _ => ?_)
    replace hw := hq
    clear hq
    refine v_goto X 29 (gD D_X12_boxes_0 13 rfl) (by decide) ?_
    exact v_iret X hr hw (gD D_X12_boxes_0 15 rfl)
set_option maxRecDepth 100000 in
set_option maxHeartbeats 4000000 in
theorem c_X12_boxes {l : Launch} {G : GX} (htr : l.stackTraces = false) {σ : St} {a0 : Nat} {x1 : Int32} {Q : Int32 → St → Prop} (ht : tvOk σ [(some a0, 13)]) (hw : w_X12_boxes a0 x1 σ Q) : MI l G 2 σ yX12_boxes cX12_boxes 2 (some .int) 3 0 0 [va_rf (some a0), .int x1] Q := by
  unfold w_X12_boxes at hw
  refine m_start RX12 (by decide) htr ht (Nat.le_of_ble_eq_true rfl) rfl (lv := [(0, va_rf (some a0)), (1, .int x1)]) (d := 2) (fun p e s m args below meth c X hr hin => ?_)
  refine v_aload_n X 0 rfl (gD D_X12_boxes_0 0 rfl) rfl ?_
  refine v_aload_n X 0 rfl (gD D_X12_boxes_0 1 rfl) rfl ?_
  refine v_iload_n X 1 rfl (gD D_X12_boxes_0 2 rfl) rfl ?_
  refine v_callVi X (As := [.int x1]) (rest := [va_rf (some a0)]) (nA := 1) 0 0 0 0 (fun ht => c_X12_isOrder htr (ht.sub [0] rfl) hw) (Or.inl rfl) 0 (κ := 13) rfl (by decide) (rfl : gCl[12]? = some (RX12, TX12, 65)) lk_vRX12_287 (by decide +kernel) rfl rfl (by simp [rf_cat, ct_i]) (by decide) (by decide) rfl rfl (gD D_X12_boxes_0 3 rfl) (fun x51 s52 hq _ _ => ?_)
  replace hw := hq
  clear hq
  refine v_if_eq X 13 (gD D_X12_boxes_0 4 rfl) (by decide) (fun c53 => ?_) (fun c53 => ?_)
  · replace hw := hw.1 c53
    refine v_iconst X 1 (gD D_X12_boxes_0 7 rfl) (by decide) ?_
    exact v_sub [0, 0] [0, 1] rfl rfl (t_X12_boxes_14 X hr hin htr  a0 x1 a0 1 s52 hw)
  · replace hw := hw.2 c53
    refine v_iconst X 0 (gD D_X12_boxes_0 5 rfl) (by decide) ?_
    refine v_goto X 14 (gD D_X12_boxes_0 6 rfl) (by decide) ?_
    exact v_sub [0, 0] [0, 1] rfl rfl (t_X12_boxes_14 X hr hin htr  a0 x1 a0 0 s52 hw)
set_option maxRecDepth 100000 in
set_option maxHeartbeats 4000000 in
theorem t_X12_count_144 {p : Program} {l : Launch} {e : Env} {s : State} {m : MethodId} {args : Array Value} {below : List Frame} {meth : Method} {c : Code} {G : GX} {σ0 : St} {mc ms : Nat} {Q : Int32 → St → Prop} (X : VC p l (rmD 3 mc ms) s m args meth c G 3 mc ms 6 RX12 cX12_count) (hr : meth.sig.returnType = (some .int)) (hin : meth.name = yX12_count.name) (htr : l.stackTraces = false) : ∀ (a0 : Nat) (x1 : Int32) (x2 : Int32) (x3 : Int32) (x4 : Int32) (x5 : Int32) (σ : St), w_X12_count_144 Q  a0 x1 x2 x3 x4 x5 σ → V p l e (rmD 3 mc ms) s m args below meth c (MQ below (va_Qi Q (gB G 2 σ0) (GA G)) args s mc ms (GA G)) G 2 σ0 mc ms 6 σ 0 0 [(some a0, 13)] 144 [(0, va_rf (some a0)), (1, .int x1), (2, .int x2), (3, .int x3), (4, .int x4), (5, .int x5)] [] := by
  intro a0 x1 x2 x3 x4 x5 σ hw
  unfold w_X12_count_144 at hw
  refine v_iload X 5 rfl (gD D_X12_count_0 80 rfl) ?_
  refine v_if_eq X 164 (gD D_X12_count_0 81 rfl) (by decide) (fun c76 => ?_) (fun c76 => ?_)
  · replace hw := hw.1 c76
    refine v_iload X 4 rfl (gD D_X12_count_0 92 rfl) ?_
    exact v_iret X hr hw (gD D_X12_count_0 93 rfl)
  · replace hw := hw.2 c76
    refine v_aload_n X 0 rfl (gD D_X12_count_0 82 rfl) rfl ?_
    refine v_iload_n X 1 rfl (gD D_X12_count_0 83 rfl) rfl ?_
    refine v_iload_n X 2 rfl (gD D_X12_count_0 84 rfl) rfl ?_
    refine v_iload X 4 rfl (gD D_X12_count_0 85 rfl) ?_
    refine v_aload_n X 0 rfl (gD D_X12_count_0 86 rfl) rfl ?_
    refine v_getR X RX12 TX12 65 13 12 (by decide) rfl gin12 19 1219 RX12 (Or.inl rfl) 0 21 rfl rfl rfl (by decide) lk_fRX12_53 (gD D_X12_count_0 87 rfl) (fun o77 eo77 => ?_)
    replace hw := hw o77 eo77
    refine v_iload_n X 3 rfl (gD D_X12_count_0 88 rfl) rfl ?_
    obtain ⟨a78, rfl, hw⟩ := hw
    obtain ⟨h79, hw⟩ := hw
    refine v_iald X 0 rfl (by decide) h79 (gD D_X12_count_0 89 rfl) ?_
    refine v_isub X (gD D_X12_count_0 90 rfl) ?_
    refine v_callVv X (As := [.int x1, .int x2, .int (x4 - (sA σ a78 x3.toNatClampNeg))]) (rest := []) (nA := 3) 0 0 0 0 (fun ht => c_X12_books htr (ht.sub [1] rfl) hw) (Or.inl rfl) 1 (κ := 13) rfl (by decide) (rfl : gCl[12]? = some (RX12, TX12, 65)) lk_vRX12_250 (by decide +kernel) rfl rfl (by decide) (by decide) (by decide) rfl rfl (gD D_X12_count_0 91 rfl) (fun s81 hq _ _ => ?_)
    replace hw := hq
    clear hq
    refine v_iload X 4 rfl (gD D_X12_count_0 92 rfl) ?_
    exact v_iret X hr hw (gD D_X12_count_0 93 rfl)
set_option maxRecDepth 100000 in
set_option maxHeartbeats 4000000 in
theorem t_X12_count_111 {p : Program} {l : Launch} {e : Env} {s : State} {m : MethodId} {args : Array Value} {below : List Frame} {meth : Method} {c : Code} {G : GX} {σ0 : St} {mc ms : Nat} {Q : Int32 → St → Prop} (X : VC p l (rmD 3 mc ms) s m args meth c G 3 mc ms 6 RX12 cX12_count) (hr : meth.sig.returnType = (some .int)) (hin : meth.name = yX12_count.name) (htr : l.stackTraces = false) : ∀ (a0 : Nat) (x1 : Int32) (x2 : Int32) (x3 : Int32) (x4 : Int32) (x5 : Int32) (os0 : Option Nat) (xs1 : Int32) (xs2 : Int32) (σ : St), w_X12_count_111 Q  a0 x1 x2 x3 x4 x5 os0 xs1 xs2 σ → V p l e (rmD 3 mc ms) s m args below meth c (MQ below (va_Qi Q (gB G 2 σ0) (GA G)) args s mc ms (GA G)) G 2 σ0 mc ms 6 σ 0 0 [(some a0, 13), (os0, 21)] 111 [(0, va_rf (some a0)), (1, .int x1), (2, .int x2), (3, .int x3), (4, .int x4), (5, .int x5)] [.int xs2, .int xs1, va_rf os0] := by
  intro a0 x1 x2 x3 x4 x5 os0 xs1 xs2 σ hw
  unfold w_X12_count_111 at hw
  obtain ⟨a72, rfl, hw⟩ := hw
  obtain ⟨h73, hw⟩ := hw
  refine v_iast X 1 rfl (by decide) (Or.inl rfl) h73 (gD D_X12_count_0 62 rfl) (fun s74 es74 => ?_)
  replace hw := hw s74 es74
  refine v_iload X 5 rfl (gD D_X12_count_0 63 rfl) ?_
  refine v_if_eq X 144 (gD D_X12_count_0 64 rfl) (by decide) (fun c75 => ?_) (fun c75 => ?_)
  · replace hw := hw.1 c75
    exact v_sub [0] [0, 1, 2, 3, 4, 5] rfl rfl (t_X12_count_144 X hr hin htr  a0 x1 x2 x3 x4 x5 s74 hw)
  · replace hw := hw.2 c75
    refine v_iload X 4 rfl (gD D_X12_count_0 65 rfl) ?_
    refine v_aload_n X 0 rfl (gD D_X12_count_0 66 rfl) rfl ?_
    refine v_getR X RX12 TX12 65 13 12 (by decide) rfl gin12 19 1219 RX12 (Or.inl rfl) 0 21 rfl rfl rfl (by decide) lk_fRX12_53 (gD D_X12_count_0 67 rfl) (fun o82 eo82 => ?_)
    replace hw := hw o82 eo82
    refine v_iload_n X 3 rfl (gD D_X12_count_0 68 rfl) rfl ?_
    obtain ⟨a83, rfl, hw⟩ := hw
    obtain ⟨h84, hw⟩ := hw
    refine v_iald X 0 rfl (by decide) h84 (gD D_X12_count_0 69 rfl) ?_
    refine v_icmp_ge X 144 (gD D_X12_count_0 70 rfl) (by decide) (fun c85 => ?_) (fun c85 => ?_)
    · replace hw := hw.1 c85
      exact v_sub [1] [0, 1, 2, 3, 4, 5] rfl rfl (t_X12_count_144 X hr hin htr  a0 x1 x2 x3 x4 x5 s74 hw)
    · replace hw := hw.2 c85
      refine v_aload_n X 0 rfl (gD D_X12_count_0 71 rfl) rfl ?_
      refine v_iload_n X 1 rfl (gD D_X12_count_0 72 rfl) rfl ?_
      refine v_iload_n X 2 rfl (gD D_X12_count_0 73 rfl) rfl ?_
      refine v_iload X 4 rfl (gD D_X12_count_0 74 rfl) ?_
      refine v_iconst X (-1) (gD D_X12_count_0 75 rfl) (by decide) ?_
      refine v_callVv X (As := [.int x1, .int x2, .int x4, .int (-1)]) (rest := []) (nA := 4) 0 0 0 0 (fun ht => c_X12_shorts htr (ht.sub [1] rfl) hw) (Or.inl rfl) 1 (κ := 13) rfl (by decide) (rfl : gCl[12]? = some (RX12, TX12, 65)) lk_vRX12_337 (by decide +kernel) rfl rfl (by decide) (by decide) (by decide) rfl rfl (gD D_X12_count_0 76 rfl) (fun s87 hq _ _ => ?_)
      replace hw := hq
      clear hq
      refine v_aload_n X 0 rfl (gD D_X12_count_0 77 rfl) rfl ?_
      refine v_callVv X (As := []) (rest := []) (nA := 0) 0 0 0 0 (fun ht => c_X12_tidies htr (ht.sub [1] rfl) hw) (Or.inl rfl) 1 (κ := 13) rfl (by decide) (rfl : gCl[12]? = some (RX12, TX12, 65)) lk_vRX12_341 (by decide +kernel) rfl rfl (by decide) (by decide) (by decide) rfl rfl (gD D_X12_count_0 78 rfl) (fun s89 hq _ _ => ?_)
      replace hw := hq
      clear hq
      refine v_goto X 164 (gD D_X12_count_0 79 rfl) (by decide) ?_
      refine v_iload X 4 rfl (gD D_X12_count_0 92 rfl) ?_
      exact v_iret X hr hw (gD D_X12_count_0 93 rfl)
set_option maxRecDepth 100000 in
set_option maxHeartbeats 4000000 in
theorem t_X12_count_82 {p : Program} {l : Launch} {e : Env} {s : State} {m : MethodId} {args : Array Value} {below : List Frame} {meth : Method} {c : Code} {G : GX} {σ0 : St} {mc ms : Nat} {Q : Int32 → St → Prop} (X : VC p l (rmD 3 mc ms) s m args meth c G 3 mc ms 6 RX12 cX12_count) (hr : meth.sig.returnType = (some .int)) (hin : meth.name = yX12_count.name) (htr : l.stackTraces = false) : ∀ (a0 : Nat) (x1 : Int32) (x2 : Int32) (x3 : Int32) (x4 : Int32) (xs0 : Int32) (σ : St), w_X12_count_82 Q  a0 x1 x2 x3 x4 xs0 σ → V p l e (rmD 3 mc ms) s m args below meth c (MQ below (va_Qi Q (gB G 2 σ0) (GA G)) args s mc ms (GA G)) G 2 σ0 mc ms 6 σ 0 0 [(some a0, 13)] 82 [(0, va_rf (some a0)), (1, .int x1), (2, .int x2), (3, .int x3), (4, .int x4)] [.int xs0] := by
  intro a0 x1 x2 x3 x4 xs0 σ hw
  unfold w_X12_count_82 at hw
  refine v_istore X [(5, .int xs0), (0, va_rf (some a0)), (1, .int x1), (2, .int x2), (3, .int x3), (4, .int x4)] (gD D_X12_count_0 47 rfl) (by decide) rfl ?_
  refine v_aload_n X 1 rfl (gD D_X12_count_0 48 rfl) rfl ?_
  refine v_getR X RX12 TX12 65 13 12 (by decide) rfl gin12 21 1221 RX12 (Or.inl rfl) 0 21 rfl rfl rfl (by decide) lk_fRX12_59 (gD D_X12_count_0 49 rfl) (fun o67 eo67 => ?_)
  replace hw := hw o67 eo67
  refine v_iload_n X 4 rfl (gD D_X12_count_0 50 rfl) rfl ?_
  refine v_iload X 5 rfl (gD D_X12_count_0 51 rfl) ?_
  refine v_aload_n X 1 rfl (gD D_X12_count_0 52 rfl) rfl ?_
  refine v_getR X RX12 TX12 65 13 12 (by decide) rfl gin12 19 1219 RX12 (Or.inl rfl) 1 21 rfl rfl rfl (by decide) lk_fRX12_53 (gD D_X12_count_0 53 rfl) (fun o68 eo68 => ?_)
  replace hw := hw o68 eo68
  refine v_iload_n X 4 rfl (gD D_X12_count_0 54 rfl) rfl ?_
  obtain ⟨a69, rfl, hw⟩ := hw
  obtain ⟨h70, hw⟩ := hw
  refine v_iald X 0 rfl (by decide) h70 (gD D_X12_count_0 55 rfl) ?_
  refine v_icmp_eq X 105 (gD D_X12_count_0 56 rfl) (by decide) (fun c71 => ?_) (fun c71 => ?_)
  · replace hw := hw.1 c71
    refine v_iconst X (-1) (gD D_X12_count_0 59 rfl) (by decide) ?_
    refine v_goto X 111 (gD D_X12_count_0 60 rfl) (by decide) ?_
    exact v_sub [2, 1] [1, 2, 3, 4, 5, 0] rfl rfl (t_X12_count_111 X hr hin htr  a0 x1 x2 x3 x4 xs0 o67 x3 (-1) σ hw)
  · replace hw := hw.2 c71
    refine v_iload X 0 rfl (gD D_X12_count_0 57 rfl) ?_
    refine v_if_eq X 109 (gD D_X12_count_0 58 rfl) (by decide) (fun c90 => ?_) (fun c90 => ?_)
    · replace hw := hw.1 c90
      refine v_iload X 5 rfl (gD D_X12_count_0 61 rfl) ?_
      exact v_sub [2, 1] [1, 2, 3, 4, 5, 0] rfl rfl (t_X12_count_111 X hr hin htr  a0 x1 x2 x3 x4 xs0 o67 x3 x4 σ hw)
    · replace hw := hw.2 c90
      refine v_iconst X (-1) (gD D_X12_count_0 59 rfl) (by decide) ?_
      refine v_goto X 111 (gD D_X12_count_0 60 rfl) (by decide) ?_
      exact v_sub [2, 1] [1, 2, 3, 4, 5, 0] rfl rfl (t_X12_count_111 X hr hin htr  a0 x1 x2 x3 x4 xs0 o67 x3 (-1) σ hw)
set_option maxRecDepth 100000 in
set_option maxHeartbeats 4000000 in
theorem t_X12_count_81 {p : Program} {l : Launch} {e : Env} {s : State} {m : MethodId} {args : Array Value} {below : List Frame} {meth : Method} {c : Code} {G : GX} {σ0 : St} {mc ms : Nat} {Q : Int32 → St → Prop} (X : VC p l (rmD 3 mc ms) s m args meth c G 3 mc ms 6 RX12 cX12_count) (hr : meth.sig.returnType = (some .int)) (hin : meth.name = yX12_count.name) (htr : l.stackTraces = false) : ∀ (a0 : Nat) (x1 : Int32) (x2 : Int32) (x3 : Int32) (x4 : Int32) (σ : St), w_X12_count_81 Q  a0 x1 x2 x3 x4 σ → V p l e (rmD 3 mc ms) s m args below meth c (MQ below (va_Qi Q (gB G 2 σ0) (GA G)) args s mc ms (GA G)) G 2 σ0 mc ms 6 σ 0 0 [(some a0, 13)] 81 [(0, va_rf (some a0)), (1, .int x1), (2, .int x2), (3, .int x3), (4, .int x4)] [] := by
  intro a0 x1 x2 x3 x4 σ hw
  unfold w_X12_count_81 at hw
  refine v_iconst X 0 (gD D_X12_count_0 46 rfl) (by decide) ?_
  exact v_sub [0] [0, 1, 2, 3, 4] rfl rfl (t_X12_count_82 X hr hin htr  a0 x1 x2 x3 x4 0 σ hw)
set_option maxRecDepth 100000 in
set_option maxHeartbeats 4000000 in
theorem t_X12_count_21 {p : Program} {l : Launch} {e : Env} {s : State} {m : MethodId} {args : Array Value} {below : List Frame} {meth : Method} {c : Code} {G : GX} {σ0 : St} {mc ms : Nat} {Q : Int32 → St → Prop} (X : VC p l (rmD 3 mc ms) s m args meth c G 3 mc ms 6 RX12 cX12_count) (hr : meth.sig.returnType = (some .int)) (hin : meth.name = yX12_count.name) (htr : l.stackTraces = false) : ∀ (a0 : Nat) (x1 : Int32) (x2 : Int32) (as0 : Nat) (xs1 : Int32) (σ : St), w_X12_count_21 Q  a0 x1 x2 as0 xs1 σ → V p l e (rmD 3 mc ms) s m args below meth c (MQ below (va_Qi Q (gB G 2 σ0) (GA G)) args s mc ms (GA G)) G 2 σ0 mc ms 6 σ 0 0 [(some a0, 13), (some as0, 13)] 21 [(0, va_rf (some a0)), (1, .int x1), (2, .int x2)] [.int xs1, va_rf (some as0)] := by
  intro a0 x1 x2 as0 xs1 σ hw
  unfold w_X12_count_21 at hw
  refine v_callVi X (As := [.int xs1]) (rest := []) (nA := 1) 0 0 0 0 (fun ht => c_X12_holds htr (ht.sub [1] rfl) hw) (Or.inl rfl) 1 (κ := 13) rfl (by decide) (rfl : gCl[12]? = some (RX12, TX12, 65)) lk_vRX12_223 (by decide +kernel) rfl rfl (by decide) (by decide) (by decide) rfl rfl (gD D_X12_count_0 11 rfl) (fun x54 s55 hq _ _ => ?_)
  replace hw := hq
  clear hq
  refine v_if_ne X 29 (gD D_X12_count_0 12 rfl) (by decide) (fun c56 => ?_) (fun c56 => ?_)
  · replace hw := hw.1 c56
    refine v_bipush X 12 (gD D_X12_count_0 15 rfl) (by decide) ?_
    refine v_iload_n X 1 rfl (gD D_X12_count_0 16 rfl) rfl ?_
    refine v_imul X (gD D_X12_count_0 17 rfl) ?_
    refine v_iload_n X 2 rfl (gD D_X12_count_0 18 rfl) rfl ?_
    refine v_iadd X (gD D_X12_count_0 19 rfl) ?_
    refine v_topi (fun x57 ex57 => ?_)
    replace hw := hw x57 ex57
    refine v_istore_n X [(3, .int x57), (0, va_rf (some a0)), (1, .int x1), (2, .int x2)] (gD D_X12_count_0 20 rfl) rfl (by decide) rfl ?_
    refine v_aload_n X 1 rfl (gD D_X12_count_0 21 rfl) rfl ?_
    refine v_getR X RX12 TX12 65 13 12 (by decide) rfl gin12 20 1220 RX12 (Or.inl rfl) 0 21 rfl rfl rfl (by decide) lk_fRX12_56 (gD D_X12_count_0 22 rfl) (fun o58 eo58 => ?_)
    replace hw := hw o58 eo58
    refine v_iload_n X 0 rfl (gD D_X12_count_0 23 rfl) rfl ?_
    obtain ⟨a59, rfl, hw⟩ := hw
    obtain ⟨h60, hw⟩ := hw
    refine v_iald X 0 rfl (by decide) h60 (gD D_X12_count_0 24 rfl) ?_
    refine v_topi (fun x61 ex61 => ?_)
    replace hw := hw x61 ex61
    refine v_istore X [(4, .int x61), (3, .int x57), (0, va_rf (some a0)), (1, .int x1), (2, .int x2)] (gD D_X12_count_0 25 rfl) (by decide) rfl ?_
    refine v_aload_n X 2 rfl (gD D_X12_count_0 26 rfl) rfl ?_
    refine v_dup X (gD D_X12_count_0 27 rfl) (rf_cat _) ?_
    refine v_getI X RX12 TX12 65 13 12 (by decide) rfl gin12 2 1202 RX12 (Or.inl rfl) 1 rfl rfl (by decide) lk_fRX12_254 (gD D_X12_count_0 28 rfl) ?_
    refine v_bipush X 6 (gD D_X12_count_0 29 rfl) (by decide) ?_
    refine v_iadd X (gD D_X12_count_0 30 rfl) ?_
    refine v_putI X RX12 TX12 65 13 12 (by decide) rfl gin12 2 1202 tyX12 tyX12_ok nmX12 RX12 (Or.inl rfl) 1 rfl .int (int_fit _) rfl (by decide) (Or.inl rfl) lk_fRX12_254 rfl rfl (gD D_X12_count_0 31 rfl) (fun s62 es62 => ?_)
    replace hw := hw s62 es62
    refine v_iload X 0 rfl (gD D_X12_count_0 32 rfl) ?_
    refine v_aload_n X 2 rfl (gD D_X12_count_0 33 rfl) rfl ?_
    refine v_getR X RX12 TX12 65 13 12 (by decide) rfl gin12 19 1219 RX12 (Or.inl rfl) 1 21 rfl rfl rfl (by decide) lk_fRX12_53 (gD D_X12_count_0 34 rfl) (fun o63 eo63 => ?_)
    replace hw := hw o63 eo63
    refine v_iload_n X 1 rfl (gD D_X12_count_0 35 rfl) rfl ?_
    obtain ⟨a64, rfl, hw⟩ := hw
    obtain ⟨h65, hw⟩ := hw
    refine v_iald X 0 rfl (by decide) h65 (gD D_X12_count_0 36 rfl) ?_
    refine v_icmp_eq X 81 (gD D_X12_count_0 37 rfl) (by decide) (fun c66 => ?_) (fun c66 => ?_)
    · replace hw := hw.1 c66
      exact v_sub [2] [2, 3, 4, 1, 0] rfl rfl (t_X12_count_81 X hr hin htr  a0 x1 x2 x57 x61 s62 hw)
    · replace hw := hw.2 c66
      refine v_aload_n X 2 rfl (gD D_X12_count_0 38 rfl) rfl ?_
      refine v_getR X RX12 TX12 65 13 12 (by decide) rfl gin12 21 1221 RX12 (Or.inl rfl) 2 21 rfl rfl rfl (by decide) lk_fRX12_59 (gD D_X12_count_0 39 rfl) (fun o91 eo91 => ?_)
      replace hw := hw o91 eo91
      refine v_iload_n X 1 rfl (gD D_X12_count_0 40 rfl) rfl ?_
      obtain ⟨a92, rfl, hw⟩ := hw
      obtain ⟨h93, hw⟩ := hw
      refine v_iald X 0 rfl (by decide) h93 (gD D_X12_count_0 41 rfl) ?_
      refine v_iload X 0 rfl (gD D_X12_count_0 42 rfl) ?_
      refine v_icmp_ne X 81 (gD D_X12_count_0 43 rfl) (by decide) (fun c94 => ?_) (fun c94 => ?_)
      · replace hw := hw.1 c94
        exact v_sub [3] [2, 3, 4, 1, 0] rfl rfl (t_X12_count_81 X hr hin htr  a0 x1 x2 x57 x61 s62 hw)
      · replace hw := hw.2 c94
        refine v_iconst X 1 (gD D_X12_count_0 44 rfl) (by decide) ?_
        refine v_goto X 82 (gD D_X12_count_0 45 rfl) (by decide) ?_
        exact v_sub [3] [2, 3, 4, 1, 0] rfl rfl (t_X12_count_82 X hr hin htr  a0 x1 x2 x57 x61 1 s62 hw)
  · replace hw := hw.2 c56
    refine v_iconst X 0 (gD D_X12_count_0 13 rfl) (by decide) ?_
    exact v_iret X hr hw (gD D_X12_count_0 14 rfl)
set_option maxRecDepth 100000 in
set_option maxHeartbeats 4000000 in
theorem t_X12_count_20 {p : Program} {l : Launch} {e : Env} {s : State} {m : MethodId} {args : Array Value} {below : List Frame} {meth : Method} {c : Code} {G : GX} {σ0 : St} {mc ms : Nat} {Q : Int32 → St → Prop} (X : VC p l (rmD 3 mc ms) s m args meth c G 3 mc ms 6 RX12 cX12_count) (hr : meth.sig.returnType = (some .int)) (hin : meth.name = yX12_count.name) (htr : l.stackTraces = false) : ∀ (a0 : Nat) (x1 : Int32) (x2 : Int32) (as0 : Nat) (σ : St), w_X12_count_20 Q  a0 x1 x2 as0 σ → V p l e (rmD 3 mc ms) s m args below meth c (MQ below (va_Qi Q (gB G 2 σ0) (GA G)) args s mc ms (GA G)) G 2 σ0 mc ms 6 σ 0 0 [(some a0, 13), (some as0, 13)] 20 [(0, va_rf (some a0)), (1, .int x1), (2, .int x2)] [va_rf (some as0)] := by
  intro a0 x1 x2 as0 σ hw
  unfold w_X12_count_20 at hw
  refine v_iconst X 1 (gD D_X12_count_0 10 rfl) (by decide) ?_
  exact v_sub [0, 1] [0, 1, 2] rfl rfl (t_X12_count_21 X hr hin htr  a0 x1 x2 as0 1 σ hw)
set_option maxRecDepth 100000 in
set_option maxHeartbeats 4000000 in
theorem c_X12_count {l : Launch} {G : GX} (htr : l.stackTraces = false) {σ : St} {a0 : Nat} {x1 : Int32} {x2 : Int32} {Q : Int32 → St → Prop} (ht : tvOk σ [(some a0, 13)]) (hw : w_X12_count a0 x1 x2 σ Q) : MI l G 2 σ yX12_count cX12_count 6 (some .int) 3 0 0 [va_rf (some a0), .int x1, .int x2] Q := by
  unfold w_X12_count at hw
  refine m_start RX12 (by decide) htr ht (Nat.le_of_ble_eq_true rfl) rfl (lv := [(0, va_rf (some a0)), (1, .int x1), (2, .int x2)]) (d := 2) (fun p e s m args below meth c X hr hin => ?_)
  refine v_aload_n X 0 rfl (gD D_X12_count_0 0 rfl) rfl ?_
  refine v_iload_n X 1 rfl (gD D_X12_count_0 1 rfl) rfl ?_
  refine v_callSi X (As := [.int x1]) (rest := [va_rf (some a0)]) (nA := 1) 0 0 0 0 (fun ht => c_X12_isSlot htr (ht.sub [] rfl) hw) (Or.inl rfl) lk_sRX12_217 (by decide +kernel) rfl rfl (by simp [rf_cat, ct_i]) (by decide) (by decide) rfl rfl (gD D_X12_count_0 2 rfl) (fun x51 s52 hq _ _ => ?_)
  replace hw := hq
  clear hq
  refine v_if_eq X 20 (gD D_X12_count_0 3 rfl) (by decide) (fun c53 => ?_) (fun c53 => ?_)
  · replace hw := hw.1 c53
    exact v_sub [0, 0] [0, 1, 2] rfl rfl (t_X12_count_20 X hr hin htr  a0 x1 x2 a0 s52 hw)
  · replace hw := hw.2 c53
    refine v_aload_n X 0 rfl (gD D_X12_count_0 4 rfl) rfl ?_
    refine v_iload_n X 2 rfl (gD D_X12_count_0 5 rfl) rfl ?_
    refine v_callVi X (As := [.int x2]) (rest := [va_rf (some a0)]) (nA := 1) 0 0 0 0 (fun ht => c_X12_isLot htr (ht.sub [0] rfl) hw) (Or.inl rfl) 0 (κ := 13) rfl (by decide) (rfl : gCl[12]? = some (RX12, TX12, 65)) lk_vRX12_232 (by decide +kernel) rfl rfl (by simp [rf_cat, ct_i]) (by decide) (by decide) rfl rfl (gD D_X12_count_0 6 rfl) (fun x95 s96 hq _ _ => ?_)
    replace hw := hq
    clear hq
    refine v_if_eq X 20 (gD D_X12_count_0 7 rfl) (by decide) (fun c97 => ?_) (fun c97 => ?_)
    · replace hw := hw.1 c97
      exact v_sub [0, 0] [0, 1, 2] rfl rfl (t_X12_count_20 X hr hin htr  a0 x1 x2 a0 s96 hw)
    · replace hw := hw.2 c97
      refine v_iconst X 0 (gD D_X12_count_0 8 rfl) (by decide) ?_
      refine v_goto X 21 (gD D_X12_count_0 9 rfl) (by decide) ?_
      exact v_sub [0, 0] [0, 1, 2] rfl rfl (t_X12_count_21 X hr hin htr  a0 x1 x2 a0 0 s96 hw)
set_option maxRecDepth 100000 in
set_option maxHeartbeats 4000000 in
theorem t_X12_does_195 {p : Program} {l : Launch} {e : Env} {s : State} {m : MethodId} {args : Array Value} {below : List Frame} {meth : Method} {c : Code} {G : GX} {σ0 : St} {mc ms : Nat} {Q : St → Prop} (X : VC p l (rmD 3 mc ms) s m args meth c G 3 mc ms 4 RX12 cX12_does) (hr : meth.sig.returnType = none) (hin : meth.name = yX12_does.name) (htr : l.stackTraces = false) : ∀ (a0 : Nat) (x1 : Int32) (x2 : Int32) (σ : St), w_X12_does_195 Q  a0 x1 x2 σ → V p l e (rmD 3 mc ms) s m args below meth c (MQ below (va_Qv Q (gB G 2 σ0) (GA G)) args s mc ms (GA G)) G 2 σ0 mc ms 4 σ 0 0 [(some a0, 13)] 195 [(0, va_rf (some a0)), (1, .int x1), (2, .int x2)] [] := by
  intro a0 x1 x2 σ hw
  unfold w_X12_does_195 at hw
  refine v_aload_n X 0 rfl (gD D_X12_does_1 30 rfl) rfl ?_
  refine v_getR X RX12 TX12 65 13 12 (by decide) rfl gin12 46 1246 RX12 (Or.inl rfl) 0 21 rfl rfl rfl (by decide) lk_fRX12_122 (gD D_X12_does_1 31 rfl) (fun o74 eo74 => ?_)
  replace hw := hw o74 eo74
  refine v_iload_n X 1 rfl (gD D_X12_does_1 32 rfl) rfl ?_
  obtain ⟨a75, rfl, hw⟩ := hw
  obtain ⟨h76, hw⟩ := hw
  refine v_iald X 0 rfl (by decide) h76 (gD D_X12_does_1 33 rfl) ?_
  refine v_iconst X 2 (gD D_X12_does_1 34 rfl) (by decide) ?_
  refine v_icmp_ne X 264 (gD D_X12_does_1 35 rfl) (by decide) (fun c77 => ?_) (fun c77 => ?_)
  · replace hw := hw.1 c77
    refine v_aload_n X 0 rfl (gD D_X12_does_1 76 rfl) rfl ?_
    refine v_getR X RX12 TX12 65 13 12 (by decide) rfl gin12 51 1251 RX12 (Or.inl rfl) 1 21 rfl rfl rfl (by decide) lk_fRX12_137 (gD D_X12_does_1 77 rfl) (fun o78 eo78 => ?_)
    replace hw := hw o78 eo78
    refine v_iload_n X 1 rfl (gD D_X12_does_1 78 rfl) rfl ?_
    obtain ⟨a79, rfl, hw⟩ := hw
    obtain ⟨h80, hw⟩ := hw
    refine v_iald X 0 rfl (by decide) h80 (gD D_X12_does_1 79 rfl) ?_
    refine v_if_ne X 282 (gD D_X12_does_1 80 rfl) (by decide) (fun c81 => ?_) (fun c81 => ?_)
    · replace hw := hw.1 c81
      refine v_aload_n X 0 rfl (gD D_X12_does_1 86 rfl) rfl ?_
      refine v_getR X RX12 TX12 65 13 12 (by decide) rfl gin12 54 1254 RX12 (Or.inl rfl) 2 22 rfl rfl rfl (by decide) lk_fRX12_146 (gD D_X12_does_1 87 rfl) (fun o82 eo82 => ?_)
      replace hw := hw o82 eo82
      refine v_iload_n X 1 rfl (gD D_X12_does_1 88 rfl) rfl ?_
      refine v_iconst X 1 (gD D_X12_does_1 89 rfl) (by decide) ?_
      obtain ⟨a83, rfl, hw⟩ := hw
      obtain ⟨h84, hw⟩ := hw
      refine v_zast X 0 rfl rfl (Or.inl rfl) h84 (by decide) (gD D_X12_does_1 90 rfl) (fun s85 es85 => ?_)
      replace hw := hw s85 es85
      exact v_vret X hr hw (gD D_X12_does_1 91 rfl)
    · replace hw := hw.2 c81
      refine v_aload_n X 0 rfl (gD D_X12_does_1 81 rfl) rfl ?_
      refine v_iload_n X 1 rfl (gD D_X12_does_1 82 rfl) rfl ?_
      refine v_iconst X 3 (gD D_X12_does_1 83 rfl) (by decide) ?_
      refine v_callVv X (As := [.int x1, .int 3]) (rest := []) (nA := 2) 0 0 0 0 (fun ht => c_X12_ends htr (ht.sub [2] rfl) hw) (Or.inl rfl) 2 (κ := 13) rfl (by decide) (rfl : gCl[12]? = some (RX12, TX12, 65)) lk_vRX12_344 (by decide +kernel) rfl rfl (by decide) (by decide) (by decide) rfl rfl (gD D_X12_does_1 84 rfl) (fun s87 hq _ _ => ?_)
      replace hw := hq
      clear hq
      refine v_goto X 289 (gD D_X12_does_1 85 rfl) (by decide) ?_
      exact v_vret X hr hw (gD D_X12_does_1 91 rfl)
  · replace hw := hw.2 c77
    refine v_aload_n X 0 rfl (gD D_X12_does_1 36 rfl) rfl ?_
    refine v_getR X RX12 TX12 65 13 12 (by decide) rfl gin12 20 1220 RX12 (Or.inl rfl) 1 21 rfl rfl rfl (by decide) lk_fRX12_56 (gD D_X12_does_1 37 rfl) (fun o88 eo88 => ?_)
    replace hw := hw o88 eo88
    refine v_bipush X 12 (gD D_X12_does_1 38 rfl) (by decide) ?_
    refine v_aload_n X 0 rfl (gD D_X12_does_1 39 rfl) rfl ?_
    refine v_getR X RX12 TX12 65 13 12 (by decide) rfl gin12 48 1248 RX12 (Or.inl rfl) 2 21 rfl rfl rfl (by decide) lk_fRX12_128 (gD D_X12_does_1 40 rfl) (fun o89 eo89 => ?_)
    replace hw := hw o89 eo89
    refine v_iload_n X 1 rfl (gD D_X12_does_1 41 rfl) rfl ?_
    obtain ⟨a90, rfl, hw⟩ := hw
    obtain ⟨h91, hw⟩ := hw
    refine v_iald X 0 rfl (by decide) h91 (gD D_X12_does_1 42 rfl) ?_
    refine v_imul X (gD D_X12_does_1 43 rfl) ?_
    refine v_iload_n X 2 rfl (gD D_X12_does_1 44 rfl) rfl ?_
    refine v_iadd X (gD D_X12_does_1 45 rfl) ?_
    refine v_topi (fun x92 ex92 => ?_)
    replace hw := hw x92 ex92
    refine v_dup2 X (gD D_X12_does_1 46 rfl) rfl (rf_cat _) ?_
    obtain ⟨a93, rfl, hw⟩ := hw
    obtain ⟨h94, hw⟩ := hw
    refine v_iald X 1 rfl (by decide) h94 (gD D_X12_does_1 47 rfl) ?_
    refine v_aload_n X 0 rfl (gD D_X12_does_1 48 rfl) rfl ?_
    refine v_getR X RX12 TX12 65 13 12 (by decide) rfl gin12 51 1251 RX12 (Or.inl rfl) 3 21 rfl rfl rfl (by decide) lk_fRX12_137 (gD D_X12_does_1 49 rfl) (fun o95 eo95 => ?_)
    replace hw := hw o95 eo95
    refine v_iload_n X 1 rfl (gD D_X12_does_1 50 rfl) rfl ?_
    obtain ⟨a96, rfl, hw⟩ := hw
    obtain ⟨h97, hw⟩ := hw
    refine v_iald X 0 rfl (by decide) h97 (gD D_X12_does_1 51 rfl) ?_
    refine v_isub X (gD D_X12_does_1 52 rfl) ?_
    obtain ⟨h98, hw⟩ := hw
    refine v_iast X 2 rfl (by decide) (Or.inl rfl) h98 (gD D_X12_does_1 53 rfl) (fun s99 es99 => ?_)
    replace hw := hw s99 es99
    refine v_aload_n X 0 rfl (gD D_X12_does_1 54 rfl) rfl ?_
    refine v_getR X RX12 TX12 65 13 12 (by decide) rfl gin12 38 1238 RX12 (Or.inl rfl) 4 21 rfl rfl rfl (by decide) lk_fRX12_104 (gD D_X12_does_1 55 rfl) (fun o100 eo100 => ?_)
    replace hw := hw o100 eo100
    refine v_aload_n X 0 rfl (gD D_X12_does_1 56 rfl) rfl ?_
    refine v_getR X RX12 TX12 65 13 12 (by decide) rfl gin12 50 1250 RX12 (Or.inl rfl) 5 21 rfl rfl rfl (by decide) lk_fRX12_134 (gD D_X12_does_1 57 rfl) (fun o101 eo101 => ?_)
    replace hw := hw o101 eo101
    refine v_iload_n X 1 rfl (gD D_X12_does_1 58 rfl) rfl ?_
    obtain ⟨a102, rfl, hw⟩ := hw
    obtain ⟨h103, hw⟩ := hw
    refine v_iald X 0 rfl (by decide) h103 (gD D_X12_does_1 59 rfl) ?_
    refine v_topi (fun x104 ex104 => ?_)
    replace hw := hw x104 ex104
    refine v_dup2 X (gD D_X12_does_1 60 rfl) rfl (rf_cat _) ?_
    obtain ⟨a105, rfl, hw⟩ := hw
    obtain ⟨h106, hw⟩ := hw
    refine v_iald X 1 rfl (by decide) h106 (gD D_X12_does_1 61 rfl) ?_
    refine v_aload_n X 0 rfl (gD D_X12_does_1 62 rfl) rfl ?_
    refine v_getR X RX12 TX12 65 13 12 (by decide) rfl gin12 51 1251 RX12 (Or.inl rfl) 6 21 rfl rfl rfl (by decide) lk_fRX12_137 (gD D_X12_does_1 63 rfl) (fun o107 eo107 => ?_)
    replace hw := hw o107 eo107
    refine v_iload_n X 1 rfl (gD D_X12_does_1 64 rfl) rfl ?_
    obtain ⟨a108, rfl, hw⟩ := hw
    obtain ⟨h109, hw⟩ := hw
    refine v_iald X 0 rfl (by decide) h109 (gD D_X12_does_1 65 rfl) ?_
    refine v_iadd X (gD D_X12_does_1 66 rfl) ?_
    obtain ⟨h110, hw⟩ := hw
    refine v_iast X 2 rfl (by decide) (Or.inl rfl) h110 (gD D_X12_does_1 67 rfl) (fun s111 es111 => ?_)
    replace hw := hw s111 es111
    refine v_aload_n X 0 rfl (gD D_X12_does_1 68 rfl) rfl ?_
    refine v_iload_n X 1 rfl (gD D_X12_does_1 69 rfl) rfl ?_
    refine v_aload_n X 0 rfl (gD D_X12_does_1 70 rfl) rfl ?_
    refine v_getR X RX12 TX12 65 13 12 (by decide) rfl gin12 51 1251 RX12 (Or.inl rfl) 7 21 rfl rfl rfl (by decide) lk_fRX12_137 (gD D_X12_does_1 71 rfl) (fun o112 eo112 => ?_)
    replace hw := hw o112 eo112
    refine v_iload_n X 1 rfl (gD D_X12_does_1 72 rfl) rfl ?_
    obtain ⟨a113, rfl, hw⟩ := hw
    obtain ⟨h114, hw⟩ := hw
    refine v_iald X 0 rfl (by decide) h114 (gD D_X12_does_1 73 rfl) ?_
    refine v_callVv X (As := [.int x1, .int (sA s111 a113 x1.toNatClampNeg)]) (rest := []) (nA := 2) 0 0 0 0 (fun ht => c_X12_moves htr (ht.sub [8] rfl) hw) (Or.inl rfl) 8 (κ := 13) rfl (by decide) (rfl : gCl[12]? = some (RX12, TX12, 65)) lk_vRX12_334 (by decide +kernel) rfl rfl (by decide) (by decide) (by decide) rfl rfl (gD D_X12_does_1 74 rfl) (fun s116 hq _ _ => ?_)
    replace hw := hq
    clear hq
    refine v_goto X 289 (gD D_X12_does_1 75 rfl) (by decide) ?_
    exact v_vret X hr hw (gD D_X12_does_1 91 rfl)
set_option maxRecDepth 100000 in
set_option maxHeartbeats 4000000 in
theorem t_X12_does_144 {p : Program} {l : Launch} {e : Env} {s : State} {m : MethodId} {args : Array Value} {below : List Frame} {meth : Method} {c : Code} {G : GX} {σ0 : St} {mc ms : Nat} {Q : St → Prop} (X : VC p l (rmD 3 mc ms) s m args meth c G 3 mc ms 4 RX12 cX12_does) (hr : meth.sig.returnType = none) (hin : meth.name = yX12_does.name) (htr : l.stackTraces = false) : ∀ (a0 : Nat) (x1 : Int32) (x2 : Int32) (σ : St), w_X12_does_144 Q  a0 x1 x2 σ → V p l e (rmD 3 mc ms) s m args below meth c (MQ below (va_Qv Q (gB G 2 σ0) (GA G)) args s mc ms (GA G)) G 2 σ0 mc ms 4 σ 0 0 [(some a0, 13)] 144 [(0, va_rf (some a0)), (1, .int x1), (2, .int x2)] [] := by
  intro a0 x1 x2 σ hw
  unfold w_X12_does_144 at hw
  refine v_aload_n X 0 rfl (gD D_X12_does_0 96 rfl) rfl ?_
  refine v_getR X RX12 TX12 65 13 12 (by decide) rfl gin12 20 1220 RX12 (Or.inl rfl) 0 21 rfl rfl rfl (by decide) lk_fRX12_56 (gD D_X12_does_0 97 rfl) (fun o63 eo63 => ?_)
  replace hw := hw o63 eo63
  refine v_bipush X 12 (gD D_X12_does_0 98 rfl) (by decide) ?_
  refine v_aload_n X 0 rfl (gD D_X12_does_0 99 rfl) rfl ?_
  refine v_getR X RX12 TX12 65 13 12 (by decide) rfl gin12 48 1248 RX12 (Or.inl rfl) 1 21 rfl rfl rfl (by decide) lk_fRX12_128 (gD D_X12_does_1 0 rfl) (fun o64 eo64 => ?_)
  replace hw := hw o64 eo64
  refine v_iload_n X 1 rfl (gD D_X12_does_1 1 rfl) rfl ?_
  obtain ⟨a65, rfl, hw⟩ := hw
  obtain ⟨h66, hw⟩ := hw
  refine v_iald X 0 rfl (by decide) h66 (gD D_X12_does_1 2 rfl) ?_
  refine v_imul X (gD D_X12_does_1 3 rfl) ?_
  refine v_iload_n X 2 rfl (gD D_X12_does_1 4 rfl) rfl ?_
  refine v_iadd X (gD D_X12_does_1 5 rfl) ?_
  obtain ⟨a67, rfl, hw⟩ := hw
  obtain ⟨h68, hw⟩ := hw
  refine v_iald X 1 rfl (by decide) h68 (gD D_X12_does_1 6 rfl) ?_
  refine v_topi (fun x69 ex69 => ?_)
  replace hw := hw x69 ex69
  refine v_istore_n X [(3, .int x69), (0, va_rf (some a0)), (1, .int x1), (2, .int x2)] (gD D_X12_does_1 7 rfl) rfl (by decide) rfl ?_
  refine v_iload_n X 0 rfl (gD D_X12_does_1 8 rfl) rfl ?_
  refine v_aload_n X 1 rfl (gD D_X12_does_1 9 rfl) rfl ?_
  refine v_getR X RX12 TX12 65 13 12 (by decide) rfl gin12 51 1251 RX12 (Or.inl rfl) 2 21 rfl rfl rfl (by decide) lk_fRX12_137 (gD D_X12_does_1 10 rfl) (fun o70 eo70 => ?_)
  replace hw := hw o70 eo70
  refine v_iload_n X 2 rfl (gD D_X12_does_1 11 rfl) rfl ?_
  obtain ⟨a71, rfl, hw⟩ := hw
  obtain ⟨h72, hw⟩ := hw
  refine v_iald X 0 rfl (by decide) h72 (gD D_X12_does_1 12 rfl) ?_
  refine v_icmp_ge X 195 (gD D_X12_does_1 13 rfl) (by decide) (fun c73 => ?_) (fun c73 => ?_)
  · replace hw := hw.1 c73
    exact v_sub [3] [1, 2, 3] rfl rfl (t_X12_does_195 X hr hin htr  a0 x1 x2 σ hw)
  · replace hw := hw.2 c73
    refine v_aload_n X 1 rfl (gD D_X12_does_1 14 rfl) rfl ?_
    refine v_getR X RX12 TX12 65 13 12 (by decide) rfl gin12 51 1251 RX12 (Or.inl rfl) 3 21 rfl rfl rfl (by decide) lk_fRX12_137 (gD D_X12_does_1 15 rfl) (fun o117 eo117 => ?_)
    replace hw := hw o117 eo117
    refine v_iload_n X 2 rfl (gD D_X12_does_1 16 rfl) rfl ?_
    refine v_iload_n X 0 rfl (gD D_X12_does_1 17 rfl) rfl ?_
    obtain ⟨a118, rfl, hw⟩ := hw
    obtain ⟨h119, hw⟩ := hw
    refine v_iast X 0 rfl (by decide) (Or.inl rfl) h119 (gD D_X12_does_1 18 rfl) (fun s120 es120 => ?_)
    replace hw := hw s120 es120
    refine v_aload_n X 1 rfl (gD D_X12_does_1 19 rfl) rfl ?_
    refine v_aload_n X 1 rfl (gD D_X12_does_1 20 rfl) rfl ?_
    refine v_getR X RX12 TX12 65 13 12 (by decide) rfl gin12 48 1248 RX12 (Or.inl rfl) 4 21 rfl rfl rfl (by decide) lk_fRX12_128 (gD D_X12_does_1 21 rfl) (fun o121 eo121 => ?_)
    replace hw := hw o121 eo121
    refine v_iload_n X 2 rfl (gD D_X12_does_1 22 rfl) rfl ?_
    obtain ⟨a122, rfl, hw⟩ := hw
    obtain ⟨h123, hw⟩ := hw
    refine v_iald X 0 rfl (by decide) h123 (gD D_X12_does_1 23 rfl) ?_
    refine v_iload_n X 3 rfl (gD D_X12_does_1 24 rfl) rfl ?_
    refine v_iload_n X 0 rfl (gD D_X12_does_1 25 rfl) rfl ?_
    refine v_iload_n X 2 rfl (gD D_X12_does_1 26 rfl) rfl ?_
    refine v_callVv X (As := [.int (sA s120 a122 x1.toNatClampNeg), .int x2, .int x69, .int x1]) (rest := []) (nA := 4) 0 0 0 0 (fun ht => c_X12_shorts htr (ht.sub [5] rfl) hw) (Or.inl rfl) 5 (κ := 13) rfl (by decide) (rfl : gCl[12]? = some (RX12, TX12, 65)) lk_vRX12_337 (by decide +kernel) rfl rfl (by decide) (by decide) (by decide) rfl rfl (gD D_X12_does_1 27 rfl) (fun s125 hq _ _ => ?_)
    replace hw := hq
    clear hq
    refine v_aload_n X 1 rfl (gD D_X12_does_1 28 rfl) rfl ?_
    refine v_callVv X (As := []) (rest := []) (nA := 0) 0 0 0 0 (fun ht => c_X12_tidies htr (ht.sub [5] rfl) hw) (Or.inl rfl) 5 (κ := 13) rfl (by decide) (rfl : gCl[12]? = some (RX12, TX12, 65)) lk_vRX12_341 (by decide +kernel) rfl rfl (by decide) (by decide) (by decide) rfl rfl (gD D_X12_does_1 29 rfl) (fun s127 hq _ _ => ?_)
    replace hw := hq
    clear hq
    exact v_sub [5] [1, 2, 3] rfl rfl (t_X12_does_195 X hr hin htr  a0 x1 x2 s127 hw)
set_option maxRecDepth 100000 in
set_option maxHeartbeats 4000000 in
theorem c_X12_does {l : Launch} {G : GX} (htr : l.stackTraces = false) {σ : St} {a0 : Nat} {x1 : Int32} {Q : St → Prop} (ht : tvOk σ [(some a0, 13)]) (hw : w_X12_does a0 x1 σ Q) : MV l G 2 σ yX12_does cX12_does 4 3 0 0 [va_rf (some a0), .int x1] Q := by
  unfold w_X12_does at hw
  refine m_start RX12 (by decide) htr ht (Nat.le_of_ble_eq_true rfl) rfl (lv := [(0, va_rf (some a0)), (1, .int x1)]) (d := 2) (fun p e s m args below meth c X hr hin => ?_)
  refine v_aload_n X 0 rfl (gD D_X12_does_0 0 rfl) rfl ?_
  refine v_getR X RX12 TX12 65 13 12 (by decide) rfl gin12 47 1247 RX12 (Or.inl rfl) 0 21 rfl rfl rfl (by decide) lk_fRX12_125 (gD D_X12_does_0 1 rfl) (fun o51 eo51 => ?_)
  replace hw := hw o51 eo51
  refine v_iload_n X 1 rfl (gD D_X12_does_0 2 rfl) rfl ?_
  obtain ⟨a52, rfl, hw⟩ := hw
  obtain ⟨h53, hw⟩ := hw
  refine v_iald X 0 rfl (by decide) h53 (gD D_X12_does_0 3 rfl) ?_
  refine v_topi (fun x54 ex54 => ?_)
  replace hw := hw x54 ex54
  refine v_istore_n X [(2, .int x54), (0, va_rf (some a0)), (1, .int x1)] (gD D_X12_does_0 4 rfl) rfl (by decide) rfl ?_
  refine v_aload_n X 1 rfl (gD D_X12_does_0 5 rfl) rfl ?_
  refine v_getR X RX12 TX12 65 13 12 (by decide) rfl gin12 46 1246 RX12 (Or.inl rfl) 1 21 rfl rfl rfl (by decide) lk_fRX12_122 (gD D_X12_does_0 6 rfl) (fun o55 eo55 => ?_)
  replace hw := hw o55 eo55
  refine v_iload_n X 2 rfl (gD D_X12_does_0 7 rfl) rfl ?_
  obtain ⟨a56, rfl, hw⟩ := hw
  obtain ⟨h57, hw⟩ := hw
  refine v_iald X 0 rfl (by decide) h57 (gD D_X12_does_0 8 rfl) ?_
  refine v_if_ne X 50 (gD D_X12_does_0 9 rfl) (by decide) (fun c58 => ?_) (fun c58 => ?_)
  · replace hw := hw.1 c58
    refine v_aload_n X 1 rfl (gD D_X12_does_0 33 rfl) rfl ?_
    refine v_getR X RX12 TX12 65 13 12 (by decide) rfl gin12 46 1246 RX12 (Or.inl rfl) 2 21 rfl rfl rfl (by decide) lk_fRX12_122 (gD D_X12_does_0 34 rfl) (fun o59 eo59 => ?_)
    replace hw := hw o59 eo59
    refine v_iload_n X 2 rfl (gD D_X12_does_0 35 rfl) rfl ?_
    obtain ⟨a60, rfl, hw⟩ := hw
    obtain ⟨h61, hw⟩ := hw
    refine v_iald X 0 rfl (by decide) h61 (gD D_X12_does_0 36 rfl) ?_
    refine v_iconst X 1 (gD D_X12_does_0 37 rfl) (by decide) ?_
    refine v_icmp_ne X 144 (gD D_X12_does_0 38 rfl) (by decide) (fun c62 => ?_) (fun c62 => ?_)
    · replace hw := hw.1 c62
      exact v_sub [3] [1, 2, 0] rfl rfl (t_X12_does_144 X hr hin htr  a0 x1 x54 σ hw)
    · replace hw := hw.2 c62
      refine v_aload_n X 1 rfl (gD D_X12_does_0 39 rfl) rfl ?_
      refine v_getR X RX12 TX12 65 13 12 (by decide) rfl gin12 54 1254 RX12 (Or.inl rfl) 3 22 rfl rfl rfl (by decide) lk_fRX12_146 (gD D_X12_does_0 40 rfl) (fun o128 eo128 => ?_)
      replace hw := hw o128 eo128
      refine v_iload_n X 2 rfl (gD D_X12_does_0 41 rfl) rfl ?_
      obtain ⟨a129, rfl, hw⟩ := hw
      obtain ⟨h130, hw⟩ := hw
      refine v_zald X 0 rfl rfl h130 (gD D_X12_does_0 42 rfl) ?_
      refine v_if_eq X 144 (gD D_X12_does_0 43 rfl) (by decide) (fun c131 => ?_) (fun c131 => ?_)
      · replace hw := hw.1 c131
        exact v_sub [4] [1, 2, 0] rfl rfl (t_X12_does_144 X hr hin htr  a0 x1 x54 σ hw)
      · replace hw := hw.2 c131
        refine v_aload_n X 1 rfl (gD D_X12_does_0 44 rfl) rfl ?_
        refine v_getR X RX12 TX12 65 13 12 (by decide) rfl gin12 51 1251 RX12 (Or.inl rfl) 4 21 rfl rfl rfl (by decide) lk_fRX12_137 (gD D_X12_does_0 45 rfl) (fun o132 eo132 => ?_)
        replace hw := hw o132 eo132
        refine v_iload_n X 2 rfl (gD D_X12_does_0 46 rfl) rfl ?_
        obtain ⟨a133, rfl, hw⟩ := hw
        obtain ⟨h134, hw⟩ := hw
        refine v_iald X 0 rfl (by decide) h134 (gD D_X12_does_0 47 rfl) ?_
        refine v_aload_n X 1 rfl (gD D_X12_does_0 48 rfl) rfl ?_
        refine v_getR X RX12 TX12 65 13 12 (by decide) rfl gin12 20 1220 RX12 (Or.inl rfl) 5 21 rfl rfl rfl (by decide) lk_fRX12_56 (gD D_X12_does_0 49 rfl) (fun o135 eo135 => ?_)
        replace hw := hw o135 eo135
        refine v_bipush X 12 (gD D_X12_does_0 50 rfl) (by decide) ?_
        refine v_aload_n X 1 rfl (gD D_X12_does_0 51 rfl) rfl ?_
        refine v_getR X RX12 TX12 65 13 12 (by decide) rfl gin12 48 1248 RX12 (Or.inl rfl) 6 21 rfl rfl rfl (by decide) lk_fRX12_128 (gD D_X12_does_0 52 rfl) (fun o136 eo136 => ?_)
        replace hw := hw o136 eo136
        refine v_iload_n X 2 rfl (gD D_X12_does_0 53 rfl) rfl ?_
        obtain ⟨a137, rfl, hw⟩ := hw
        obtain ⟨h138, hw⟩ := hw
        refine v_iald X 0 rfl (by decide) h138 (gD D_X12_does_0 54 rfl) ?_
        refine v_imul X (gD D_X12_does_0 55 rfl) ?_
        refine v_iload_n X 0 rfl (gD D_X12_does_0 56 rfl) rfl ?_
        refine v_iadd X (gD D_X12_does_0 57 rfl) ?_
        obtain ⟨a139, rfl, hw⟩ := hw
        obtain ⟨h140, hw⟩ := hw
        refine v_iald X 1 rfl (by decide) h140 (gD D_X12_does_0 58 rfl) ?_
        refine v_callSi X (As := [.int (sA σ a133 x1.toNatClampNeg), .int (sA σ a139 ((12 * (sA σ a137 x1.toNatClampNeg)) + x54).toNatClampNeg)]) (rest := []) (nA := 2) 0 0 0 0 (fun ht => c_X12_less htr (ht.sub [] rfl) hw) (Or.inl rfl) lk_sRX12_281 (by decide +kernel) rfl rfl (by decide) (by decide) (by decide) rfl rfl (gD D_X12_does_0 59 rfl) (fun x141 s142 hq _ _ => ?_)
        replace hw := hq
        clear hq
        refine v_istore_n X [(3, .int x141), (2, .int x54), (0, va_rf (some a0)), (1, .int x1)] (gD D_X12_does_0 60 rfl) rfl (by decide) rfl ?_
        refine v_aload_n X 2 rfl (gD D_X12_does_0 61 rfl) rfl ?_
        refine v_getR X RX12 TX12 65 13 12 (by decide) rfl gin12 20 1220 RX12 (Or.inl rfl) 7 21 rfl rfl rfl (by decide) lk_fRX12_56 (gD D_X12_does_0 62 rfl) (fun o143 eo143 => ?_)
        replace hw := hw o143 eo143
        refine v_bipush X 12 (gD D_X12_does_0 63 rfl) (by decide) ?_
        refine v_aload_n X 2 rfl (gD D_X12_does_0 64 rfl) rfl ?_
        refine v_getR X RX12 TX12 65 13 12 (by decide) rfl gin12 48 1248 RX12 (Or.inl rfl) 8 21 rfl rfl rfl (by decide) lk_fRX12_128 (gD D_X12_does_0 65 rfl) (fun o144 eo144 => ?_)
        replace hw := hw o144 eo144
        refine v_iload_n X 3 rfl (gD D_X12_does_0 66 rfl) rfl ?_
        obtain ⟨a145, rfl, hw⟩ := hw
        obtain ⟨h146, hw⟩ := hw
        refine v_iald X 0 rfl (by decide) h146 (gD D_X12_does_0 67 rfl) ?_
        refine v_imul X (gD D_X12_does_0 68 rfl) ?_
        refine v_iload_n X 1 rfl (gD D_X12_does_0 69 rfl) rfl ?_
        refine v_iadd X (gD D_X12_does_0 70 rfl) ?_
        refine v_topi (fun x147 ex147 => ?_)
        replace hw := hw x147 ex147
        refine v_dup2 X (gD D_X12_does_0 71 rfl) rfl (rf_cat _) ?_
        obtain ⟨a148, rfl, hw⟩ := hw
        obtain ⟨h149, hw⟩ := hw
        refine v_iald X 1 rfl (by decide) h149 (gD D_X12_does_0 72 rfl) ?_
        refine v_iload_n X 0 rfl (gD D_X12_does_0 73 rfl) rfl ?_
        refine v_isub X (gD D_X12_does_0 74 rfl) ?_
        obtain ⟨h150, hw⟩ := hw
        refine v_iast X 1 rfl (by decide) (Or.inl rfl) h150 (gD D_X12_does_0 75 rfl) (fun s151 es151 => ?_)
        replace hw := hw s151 es151
        refine v_aload_n X 2 rfl (gD D_X12_does_0 76 rfl) rfl ?_
        refine v_getR X RX12 TX12 65 13 12 (by decide) rfl gin12 20 1220 RX12 (Or.inl rfl) 9 21 rfl rfl rfl (by decide) lk_fRX12_56 (gD D_X12_does_0 77 rfl) (fun o152 eo152 => ?_)
        replace hw := hw o152 eo152
        refine v_bipush X 12 (gD D_X12_does_0 78 rfl) (by decide) ?_
        refine v_aload_n X 2 rfl (gD D_X12_does_0 79 rfl) rfl ?_
        refine v_getR X RX12 TX12 65 13 12 (by decide) rfl gin12 49 1249 RX12 (Or.inl rfl) 10 21 rfl rfl rfl (by decide) lk_fRX12_131 (gD D_X12_does_0 80 rfl) (fun o153 eo153 => ?_)
        replace hw := hw o153 eo153
        refine v_iload_n X 3 rfl (gD D_X12_does_0 81 rfl) rfl ?_
        obtain ⟨a154, rfl, hw⟩ := hw
        obtain ⟨h155, hw⟩ := hw
        refine v_iald X 0 rfl (by decide) h155 (gD D_X12_does_0 82 rfl) ?_
        refine v_imul X (gD D_X12_does_0 83 rfl) ?_
        refine v_iload_n X 1 rfl (gD D_X12_does_0 84 rfl) rfl ?_
        refine v_iadd X (gD D_X12_does_0 85 rfl) ?_
        refine v_topi (fun x156 ex156 => ?_)
        replace hw := hw x156 ex156
        refine v_dup2 X (gD D_X12_does_0 86 rfl) rfl (rf_cat _) ?_
        obtain ⟨a157, rfl, hw⟩ := hw
        obtain ⟨h158, hw⟩ := hw
        refine v_iald X 1 rfl (by decide) h158 (gD D_X12_does_0 87 rfl) ?_
        refine v_iload_n X 0 rfl (gD D_X12_does_0 88 rfl) rfl ?_
        refine v_iadd X (gD D_X12_does_0 89 rfl) ?_
        obtain ⟨h159, hw⟩ := hw
        refine v_iast X 1 rfl (by decide) (Or.inl rfl) h159 (gD D_X12_does_0 90 rfl) (fun s160 es160 => ?_)
        replace hw := hw s160 es160
        refine v_aload_n X 2 rfl (gD D_X12_does_0 91 rfl) rfl ?_
        refine v_iload_n X 3 rfl (gD D_X12_does_0 92 rfl) rfl ?_
        refine v_iconst X 4 (gD D_X12_does_0 93 rfl) (by decide) ?_
        refine v_callVv X (As := [.int x1, .int 4]) (rest := []) (nA := 2) 0 0 0 0 (fun ht => c_X12_moves htr (ht.sub [11] rfl) hw) (Or.inl rfl) 11 (κ := 13) rfl (by decide) (rfl : gCl[12]? = some (RX12, TX12, 65)) lk_vRX12_334 (by decide +kernel) rfl rfl (by decide) (by decide) (by decide) rfl rfl (gD D_X12_does_0 94 rfl) (fun s162 hq _ _ => ?_)
        replace hw := hq
        clear hq
        refine v_goto X 289 (gD D_X12_does_0 95 rfl) (by decide) ?_
        exact v_vret X hr hw (gD D_X12_does_1 91 rfl)
  · replace hw := hw.2 c58
    refine v_aload_n X 1 rfl (gD D_X12_does_0 10 rfl) rfl ?_
    refine v_getR X RX12 TX12 65 13 12 (by decide) rfl gin12 20 1220 RX12 (Or.inl rfl) 2 21 rfl rfl rfl (by decide) lk_fRX12_56 (gD D_X12_does_0 11 rfl) (fun o163 eo163 => ?_)
    replace hw := hw o163 eo163
    refine v_bipush X 12 (gD D_X12_does_0 12 rfl) (by decide) ?_
    refine v_aload_n X 1 rfl (gD D_X12_does_0 13 rfl) rfl ?_
    refine v_getR X RX12 TX12 65 13 12 (by decide) rfl gin12 49 1249 RX12 (Or.inl rfl) 3 21 rfl rfl rfl (by decide) lk_fRX12_131 (gD D_X12_does_0 14 rfl) (fun o164 eo164 => ?_)
    replace hw := hw o164 eo164
    refine v_iload_n X 2 rfl (gD D_X12_does_0 15 rfl) rfl ?_
    obtain ⟨a165, rfl, hw⟩ := hw
    obtain ⟨h166, hw⟩ := hw
    refine v_iald X 0 rfl (by decide) h166 (gD D_X12_does_0 16 rfl) ?_
    refine v_imul X (gD D_X12_does_0 17 rfl) ?_
    refine v_iload_n X 0 rfl (gD D_X12_does_0 18 rfl) rfl ?_
    refine v_iadd X (gD D_X12_does_0 19 rfl) ?_
    refine v_topi (fun x167 ex167 => ?_)
    replace hw := hw x167 ex167
    refine v_dup2 X (gD D_X12_does_0 20 rfl) rfl (rf_cat _) ?_
    obtain ⟨a168, rfl, hw⟩ := hw
    obtain ⟨h169, hw⟩ := hw
    refine v_iald X 1 rfl (by decide) h169 (gD D_X12_does_0 21 rfl) ?_
    refine v_aload_n X 1 rfl (gD D_X12_does_0 22 rfl) rfl ?_
    refine v_getR X RX12 TX12 65 13 12 (by decide) rfl gin12 51 1251 RX12 (Or.inl rfl) 4 21 rfl rfl rfl (by decide) lk_fRX12_137 (gD D_X12_does_0 23 rfl) (fun o170 eo170 => ?_)
    replace hw := hw o170 eo170
    refine v_iload_n X 2 rfl (gD D_X12_does_0 24 rfl) rfl ?_
    obtain ⟨a171, rfl, hw⟩ := hw
    obtain ⟨h172, hw⟩ := hw
    refine v_iald X 0 rfl (by decide) h172 (gD D_X12_does_0 25 rfl) ?_
    refine v_iadd X (gD D_X12_does_0 26 rfl) ?_
    obtain ⟨h173, hw⟩ := hw
    refine v_iast X 2 rfl (by decide) (Or.inl rfl) h173 (gD D_X12_does_0 27 rfl) (fun s174 es174 => ?_)
    replace hw := hw s174 es174
    refine v_aload_n X 1 rfl (gD D_X12_does_0 28 rfl) rfl ?_
    refine v_iload_n X 2 rfl (gD D_X12_does_0 29 rfl) rfl ?_
    refine v_iconst X 3 (gD D_X12_does_0 30 rfl) (by decide) ?_
    refine v_callVv X (As := [.int x1, .int 3]) (rest := []) (nA := 2) 0 0 0 0 (fun ht => c_X12_moves htr (ht.sub [5] rfl) hw) (Or.inl rfl) 5 (κ := 13) rfl (by decide) (rfl : gCl[12]? = some (RX12, TX12, 65)) lk_vRX12_334 (by decide +kernel) rfl rfl (by decide) (by decide) (by decide) rfl rfl (gD D_X12_does_0 31 rfl) (fun s176 hq _ _ => ?_)
    replace hw := hq
    clear hq
    refine v_goto X 289 (gD D_X12_does_0 32 rfl) (by decide) ?_
    exact v_vret X hr hw (gD D_X12_does_1 91 rfl)
set_option maxRecDepth 100000 in
set_option maxHeartbeats 4000000 in
theorem t_X12_face_136 {p : Program} {l : Launch} {e : Env} {s : State} {m : MethodId} {args : Array Value} {below : List Frame} {meth : Method} {c : Code} {G : GX} {σ0 : St} {mc ms : Nat} {Q : St → Prop} (X : VC p l (rmD 3 mc ms) s m args meth c G 3 mc ms 9 RX12 cX12_face) (hr : meth.sig.returnType = none) (hin : meth.name = yX12_face.name) (htr : l.stackTraces = false) : ∀ (a0 : Nat) (x1 : Int32) (x2 : Int32) (x3 : Int32) (x4 : Int32) (as0 : Nat) (xs1 : Int32) (σ : St), w_X12_face_136 Q  a0 x1 x2 x3 x4 as0 xs1 σ → V p l e (rmD 3 mc ms) s m args below meth c (MQ below (va_Qv Q (gB G 2 σ0) (GA G)) args s mc ms (GA G)) G 2 σ0 mc ms 9 σ 0 0 [(some a0, 13), (some as0, 13)] 136 [(0, va_rf (some a0)), (1, .int x1), (2, .int x2), (3, .int x3), (4, .int x4)] [.int xs1, va_rf (some as0)] := by
  intro a0 x1 x2 x3 x4 as0 xs1 σ hw
  unfold w_X12_face_136 at hw
  refine v_callVi X (As := [.int xs1]) (rest := []) (nA := 1) 0 0 0 0 (fun ht => c_X12_holds htr (ht.sub [1] rfl) hw) (Or.inl rfl) 1 (κ := 13) rfl (by decide) (rfl : gCl[12]? = some (RX12, TX12, 65)) lk_vRX12_223 (by decide +kernel) rfl rfl (by decide) (by decide) (by decide) rfl rfl (gD D_X12_face_0 70 rfl) (fun x62 s63 hq _ _ => ?_)
  replace hw := hq
  clear hq
  refine v_if_eq X 164 (gD D_X12_face_0 71 rfl) (by decide) (fun c64 => ?_) (fun c64 => ?_)
  · replace hw := hw.1 c64
    exact v_vret X hr hw (gD D_X12_face_0 87 rfl)
  · replace hw := hw.2 c64
    refine v_aload_n X 0 rfl (gD D_X12_face_0 72 rfl) rfl ?_
    refine v_getR X RX12 TX12 65 13 12 (by decide) rfl gin12 6 1206 RX12 (Or.inl rfl) 0 21 rfl rfl rfl (by decide) lk_fRX12_16 (gD D_X12_face_0 73 rfl) (fun o65 eo65 => ?_)
    replace hw := hw o65 eo65
    refine v_iload_n X 1 rfl (gD D_X12_face_0 74 rfl) rfl ?_
    refine v_iload_n X 2 rfl (gD D_X12_face_0 75 rfl) rfl ?_
    obtain ⟨a66, rfl, hw⟩ := hw
    obtain ⟨h67, hw⟩ := hw
    refine v_iast X 0 rfl (by decide) (Or.inl rfl) h67 (gD D_X12_face_0 76 rfl) (fun s68 es68 => ?_)
    replace hw := hw s68 es68
    refine v_aload_n X 0 rfl (gD D_X12_face_0 77 rfl) rfl ?_
    refine v_getR X RX12 TX12 65 13 12 (by decide) rfl gin12 7 1207 RX12 (Or.inl rfl) 1 21 rfl rfl rfl (by decide) lk_fRX12_19 (gD D_X12_face_0 78 rfl) (fun o69 eo69 => ?_)
    replace hw := hw o69 eo69
    refine v_iload_n X 1 rfl (gD D_X12_face_0 79 rfl) rfl ?_
    refine v_iload_n X 3 rfl (gD D_X12_face_0 80 rfl) rfl ?_
    obtain ⟨a70, rfl, hw⟩ := hw
    obtain ⟨h71, hw⟩ := hw
    refine v_iast X 0 rfl (by decide) (Or.inl rfl) h71 (gD D_X12_face_0 81 rfl) (fun s72 es72 => ?_)
    replace hw := hw s72 es72
    refine v_aload_n X 0 rfl (gD D_X12_face_0 82 rfl) rfl ?_
    refine v_getR X RX12 TX12 65 13 12 (by decide) rfl gin12 8 1208 RX12 (Or.inl rfl) 2 21 rfl rfl rfl (by decide) lk_fRX12_22 (gD D_X12_face_0 83 rfl) (fun o73 eo73 => ?_)
    replace hw := hw o73 eo73
    refine v_iload_n X 1 rfl (gD D_X12_face_0 84 rfl) rfl ?_
    refine v_iload X 4 rfl (gD D_X12_face_0 85 rfl) ?_
    obtain ⟨a74, rfl, hw⟩ := hw
    obtain ⟨h75, hw⟩ := hw
    refine v_iast X 0 rfl (by decide) (Or.inl rfl) h75 (gD D_X12_face_0 86 rfl) (fun s76 es76 => ?_)
    replace hw := hw s76 es76
    exact v_vret X hr hw (gD D_X12_face_0 87 rfl)
set_option maxRecDepth 100000 in
set_option maxHeartbeats 4000000 in
theorem t_X12_face_105 {p : Program} {l : Launch} {e : Env} {s : State} {m : MethodId} {args : Array Value} {below : List Frame} {meth : Method} {c : Code} {G : GX} {σ0 : St} {mc ms : Nat} {Q : St → Prop} (X : VC p l (rmD 3 mc ms) s m args meth c G 3 mc ms 9 RX12 cX12_face) (hr : meth.sig.returnType = none) (hin : meth.name = yX12_face.name) (htr : l.stackTraces = false) : ∀ (a0 : Nat) (x1 : Int32) (x2 : Int32) (x3 : Int32) (x4 : Int32) (x5 : Int32) (x7 : Int32) (xs0 : Int32) (σ : St), w_X12_face_105 Q  a0 x1 x2 x3 x4 x5 x7 xs0 σ → V p l e (rmD 3 mc ms) s m args below meth c (MQ below (va_Qv Q (gB G 2 σ0) (GA G)) args s mc ms (GA G)) G 2 σ0 mc ms 9 σ 0 0 [(some a0, 13)] 105 [(0, va_rf (some a0)), (1, .int x1), (2, .int x2), (3, .int x3), (4, .int x4), (5, .int x5), (7, .int x7)] [.int xs0] := by
  intro a0 x1 x2 x3 x4 x5 x7 xs0 σ hw
  unfold w_X12_face_105 at hw
  refine v_istore X [(8, .int xs0), (0, va_rf (some a0)), (1, .int x1), (2, .int x2), (3, .int x3), (4, .int x4), (5, .int x5), (7, .int x7)] (gD D_X12_face_0 55 rfl) (by decide) rfl ?_
  refine v_aload_n X 1 rfl (gD D_X12_face_0 56 rfl) rfl ?_
  refine v_iload X 6 rfl (gD D_X12_face_0 57 rfl) ?_
  refine v_if_ne X 117 (gD D_X12_face_0 58 rfl) (by decide) (fun c59 => ?_) (fun c59 => ?_)
  · replace hw := hw.1 c59
    refine v_iload X 7 rfl (gD D_X12_face_0 61 rfl) ?_
    refine v_if_ne X 126 (gD D_X12_face_0 62 rfl) (by decide) (fun c60 => ?_) (fun c60 => ?_)
    · replace hw := hw.1 c60
      refine v_iload X 0 rfl (gD D_X12_face_0 65 rfl) ?_
      refine v_if_eq X 135 (gD D_X12_face_0 66 rfl) (by decide) (fun c61 => ?_) (fun c61 => ?_)
      · replace hw := hw.1 c61
        refine v_iconst X 3 (gD D_X12_face_0 69 rfl) (by decide) ?_
        exact v_sub [0, 0] [1, 2, 3, 4, 5] rfl rfl (t_X12_face_136 X hr hin htr  a0 x1 x2 x3 x4 a0 3 σ hw)
      · replace hw := hw.2 c61
        refine v_iconst X 0 (gD D_X12_face_0 67 rfl) (by decide) ?_
        refine v_goto X 136 (gD D_X12_face_0 68 rfl) (by decide) ?_
        exact v_sub [0, 0] [1, 2, 3, 4, 5] rfl rfl (t_X12_face_136 X hr hin htr  a0 x1 x2 x3 x4 a0 0 σ hw)
    · replace hw := hw.2 c60
      refine v_iconst X 2 (gD D_X12_face_0 63 rfl) (by decide) ?_
      refine v_goto X 136 (gD D_X12_face_0 64 rfl) (by decide) ?_
      exact v_sub [0, 0] [1, 2, 3, 4, 5] rfl rfl (t_X12_face_136 X hr hin htr  a0 x1 x2 x3 x4 a0 2 σ hw)
  · replace hw := hw.2 c59
    refine v_iconst X 1 (gD D_X12_face_0 59 rfl) (by decide) ?_
    refine v_goto X 136 (gD D_X12_face_0 60 rfl) (by decide) ?_
    exact v_sub [0, 0] [1, 2, 3, 4, 5] rfl rfl (t_X12_face_136 X hr hin htr  a0 x1 x2 x3 x4 a0 1 σ hw)
set_option maxRecDepth 100000 in
set_option maxHeartbeats 4000000 in
theorem t_X12_face_104 {p : Program} {l : Launch} {e : Env} {s : State} {m : MethodId} {args : Array Value} {below : List Frame} {meth : Method} {c : Code} {G : GX} {σ0 : St} {mc ms : Nat} {Q : St → Prop} (X : VC p l (rmD 3 mc ms) s m args meth c G 3 mc ms 9 RX12 cX12_face) (hr : meth.sig.returnType = none) (hin : meth.name = yX12_face.name) (htr : l.stackTraces = false) : ∀ (a0 : Nat) (x1 : Int32) (x2 : Int32) (x3 : Int32) (x4 : Int32) (x5 : Int32) (x7 : Int32) (σ : St), w_X12_face_104 Q  a0 x1 x2 x3 x4 x5 x7 σ → V p l e (rmD 3 mc ms) s m args below meth c (MQ below (va_Qv Q (gB G 2 σ0) (GA G)) args s mc ms (GA G)) G 2 σ0 mc ms 9 σ 0 0 [(some a0, 13)] 104 [(0, va_rf (some a0)), (1, .int x1), (2, .int x2), (3, .int x3), (4, .int x4), (5, .int x5), (7, .int x7)] [] := by
  intro a0 x1 x2 x3 x4 x5 x7 σ hw
  unfold w_X12_face_104 at hw
  refine v_iconst X 0 (gD D_X12_face_0 54 rfl) (by decide) ?_
  exact v_sub [0] [0, 1, 2, 3, 4, 5, 6] rfl rfl (t_X12_face_105 X hr hin htr  a0 x1 x2 x3 x4 x5 x7 0 σ hw)
set_option maxRecDepth 100000 in
set_option maxHeartbeats 4000000 in
theorem t_X12_face_65 {p : Program} {l : Launch} {e : Env} {s : State} {m : MethodId} {args : Array Value} {below : List Frame} {meth : Method} {c : Code} {G : GX} {σ0 : St} {mc ms : Nat} {Q : St → Prop} (X : VC p l (rmD 3 mc ms) s m args meth c G 3 mc ms 9 RX12 cX12_face) (hr : meth.sig.returnType = none) (hin : meth.name = yX12_face.name) (htr : l.stackTraces = false) : ∀ (a0 : Nat) (x1 : Int32) (x2 : Int32) (x3 : Int32) (x4 : Int32) (x5 : Int32) (xs0 : Int32) (σ : St), w_X12_face_65 Q  a0 x1 x2 x3 x4 x5 xs0 σ → V p l e (rmD 3 mc ms) s m args below meth c (MQ below (va_Qv Q (gB G 2 σ0) (GA G)) args s mc ms (GA G)) G 2 σ0 mc ms 9 σ 0 0 [(some a0, 13)] 65 [(0, va_rf (some a0)), (1, .int x1), (2, .int x2), (3, .int x3), (4, .int x4), (5, .int x5)] [.int xs0] := by
  intro a0 x1 x2 x3 x4 x5 xs0 σ hw
  unfold w_X12_face_65 at hw
  refine v_istore X [(7, .int xs0), (0, va_rf (some a0)), (1, .int x1), (2, .int x2), (3, .int x3), (4, .int x4), (5, .int x5)] (gD D_X12_face_0 33 rfl) (by decide) rfl ?_
  refine v_iload X 6 rfl (gD D_X12_face_0 34 rfl) ?_
  refine v_if_eq X 104 (gD D_X12_face_0 35 rfl) (by decide) (fun c58 => ?_) (fun c58 => ?_)
  · replace hw := hw.1 c58
    exact v_sub [0] [1, 2, 3, 4, 5, 6, 0] rfl rfl (t_X12_face_104 X hr hin htr  a0 x1 x2 x3 x4 x5 xs0 σ hw)
  · replace hw := hw.2 c58
    refine v_aload_n X 1 rfl (gD D_X12_face_0 36 rfl) rfl ?_
    refine v_iload_n X 2 rfl (gD D_X12_face_0 37 rfl) rfl ?_
    refine v_callVi X (As := [.int x1]) (rest := []) (nA := 1) 0 0 0 0 (fun ht => c_X12_isEmpty htr (ht.sub [0] rfl) hw) (Or.inl rfl) 0 (κ := 13) rfl (by decide) (rfl : gCl[12]? = some (RX12, TX12, 65)) lk_vRX12_220 (by decide +kernel) rfl rfl (by decide) (by decide) (by decide) rfl rfl (gD D_X12_face_0 38 rfl) (fun x77 s78 hq _ _ => ?_)
    replace hw := hq
    clear hq
    refine v_if_eq X 104 (gD D_X12_face_0 39 rfl) (by decide) (fun c79 => ?_) (fun c79 => ?_)
    · replace hw := hw.1 c79
      exact v_sub [0] [1, 2, 3, 4, 5, 6, 0] rfl rfl (t_X12_face_104 X hr hin htr  a0 x1 x2 x3 x4 x5 xs0 s78 hw)
    · replace hw := hw.2 c79
      refine v_iload_n X 3 rfl (gD D_X12_face_0 40 rfl) rfl ?_
      refine v_iconst X (-1) (gD D_X12_face_0 41 rfl) (by decide) ?_
      refine v_icmp_eq X 100 (gD D_X12_face_0 42 rfl) (by decide) (fun c80 => ?_) (fun c80 => ?_)
      · replace hw := hw.1 c80
        refine v_iconst X 1 (gD D_X12_face_0 52 rfl) (by decide) ?_
        refine v_goto X 105 (gD D_X12_face_0 53 rfl) (by decide) ?_
        exact v_sub [0] [1, 2, 3, 4, 5, 6, 0] rfl rfl (t_X12_face_105 X hr hin htr  a0 x1 x2 x3 x4 x5 xs0 1 s78 hw)
      · replace hw := hw.2 c80
        refine v_aload_n X 1 rfl (gD D_X12_face_0 43 rfl) rfl ?_
        refine v_getR X RX12 TX12 65 13 12 (by decide) rfl gin12 9 1209 RX12 (Or.inl rfl) 0 21 rfl rfl rfl (by decide) lk_fRX12_25 (gD D_X12_face_0 44 rfl) (fun o81 eo81 => ?_)
        replace hw := hw o81 eo81
        refine v_iload_n X 3 rfl (gD D_X12_face_0 45 rfl) rfl ?_
        obtain ⟨a82, rfl, hw⟩ := hw
        obtain ⟨h83, hw⟩ := hw
        refine v_iald X 0 rfl (by decide) h83 (gD D_X12_face_0 46 rfl) ?_
        refine v_aload_n X 1 rfl (gD D_X12_face_0 47 rfl) rfl ?_
        refine v_getR X RX12 TX12 65 13 12 (by decide) rfl gin12 4 1204 RX12 (Or.inl rfl) 1 21 rfl rfl rfl (by decide) lk_fRX12_7 (gD D_X12_face_0 48 rfl) (fun o84 eo84 => ?_)
        replace hw := hw o84 eo84
        refine v_iload_n X 2 rfl (gD D_X12_face_0 49 rfl) rfl ?_
        obtain ⟨a85, rfl, hw⟩ := hw
        obtain ⟨h86, hw⟩ := hw
        refine v_iald X 0 rfl (by decide) h86 (gD D_X12_face_0 50 rfl) ?_
        refine v_icmp_ne X 104 (gD D_X12_face_0 51 rfl) (by decide) (fun c87 => ?_) (fun c87 => ?_)
        · replace hw := hw.1 c87
          exact v_sub [2] [1, 2, 3, 4, 5, 6, 0] rfl rfl (t_X12_face_104 X hr hin htr  a0 x1 x2 x3 x4 x5 xs0 s78 hw)
        · replace hw := hw.2 c87
          refine v_iconst X 1 (gD D_X12_face_0 52 rfl) (by decide) ?_
          refine v_goto X 105 (gD D_X12_face_0 53 rfl) (by decide) ?_
          exact v_sub [2] [1, 2, 3, 4, 5, 6, 0] rfl rfl (t_X12_face_105 X hr hin htr  a0 x1 x2 x3 x4 x5 xs0 1 s78 hw)
set_option maxRecDepth 100000 in
set_option maxHeartbeats 4000000 in
theorem t_X12_face_64 {p : Program} {l : Launch} {e : Env} {s : State} {m : MethodId} {args : Array Value} {below : List Frame} {meth : Method} {c : Code} {G : GX} {σ0 : St} {mc ms : Nat} {Q : St → Prop} (X : VC p l (rmD 3 mc ms) s m args meth c G 3 mc ms 9 RX12 cX12_face) (hr : meth.sig.returnType = none) (hin : meth.name = yX12_face.name) (htr : l.stackTraces = false) : ∀ (a0 : Nat) (x1 : Int32) (x2 : Int32) (x3 : Int32) (x4 : Int32) (x5 : Int32) (σ : St), w_X12_face_64 Q  a0 x1 x2 x3 x4 x5 σ → V p l e (rmD 3 mc ms) s m args below meth c (MQ below (va_Qv Q (gB G 2 σ0) (GA G)) args s mc ms (GA G)) G 2 σ0 mc ms 9 σ 0 0 [(some a0, 13)] 64 [(0, va_rf (some a0)), (1, .int x1), (2, .int x2), (3, .int x3), (4, .int x4), (5, .int x5)] [] := by
  intro a0 x1 x2 x3 x4 x5 σ hw
  unfold w_X12_face_64 at hw
  refine v_iconst X 0 (gD D_X12_face_0 32 rfl) (by decide) ?_
  exact v_sub [0] [0, 1, 2, 3, 4, 5] rfl rfl (t_X12_face_65 X hr hin htr  a0 x1 x2 x3 x4 x5 0 σ hw)
set_option maxRecDepth 100000 in
set_option maxHeartbeats 4000000 in
theorem t_X12_face_37 {p : Program} {l : Launch} {e : Env} {s : State} {m : MethodId} {args : Array Value} {below : List Frame} {meth : Method} {c : Code} {G : GX} {σ0 : St} {mc ms : Nat} {Q : St → Prop} (X : VC p l (rmD 3 mc ms) s m args meth c G 3 mc ms 9 RX12 cX12_face) (hr : meth.sig.returnType = none) (hin : meth.name = yX12_face.name) (htr : l.stackTraces = false) : ∀ (a0 : Nat) (x1 : Int32) (x2 : Int32) (x3 : Int32) (x4 : Int32) (x5 : Int32) (xs0 : Int32) (σ : St), w_X12_face_37 Q  a0 x1 x2 x3 x4 x5 xs0 σ → V p l e (rmD 3 mc ms) s m args below meth c (MQ below (va_Qv Q (gB G 2 σ0) (GA G)) args s mc ms (GA G)) G 2 σ0 mc ms 9 σ 0 0 [(some a0, 13)] 37 [(0, va_rf (some a0)), (1, .int x1), (2, .int x2), (3, .int x3), (4, .int x4), (5, .int x5)] [.int xs0] := by
  intro a0 x1 x2 x3 x4 x5 xs0 σ hw
  unfold w_X12_face_37 at hw
  refine v_istore X [(6, .int xs0), (0, va_rf (some a0)), (1, .int x1), (2, .int x2), (3, .int x3), (4, .int x4), (5, .int x5)] (gD D_X12_face_0 19 rfl) (by decide) rfl ?_
  refine v_iload_n X 4 rfl (gD D_X12_face_0 20 rfl) rfl ?_
  refine v_iconst X 0 (gD D_X12_face_0 21 rfl) (by decide) ?_
  refine v_iload X 0 rfl (gD D_X12_face_0 22 rfl) ?_
  refine v_callSi X (As := [.int x3, .int 0, .int xs0]) (rest := []) (nA := 3) 0 0 0 0 (fun ht => c_X12_isIn htr (ht.sub [] rfl) hw) (Or.inl rfl) lk_sRX12_183 (by decide +kernel) rfl rfl (by decide) (by decide) (by decide) rfl rfl (gD D_X12_face_0 23 rfl) (fun x55 s56 hq _ _ => ?_)
  replace hw := hq
  clear hq
  refine v_if_eq X 64 (gD D_X12_face_0 24 rfl) (by decide) (fun c57 => ?_) (fun c57 => ?_)
  · replace hw := hw.1 c57
    exact v_sub [0] [1, 2, 3, 4, 5, 6] rfl rfl (t_X12_face_64 X hr hin htr  a0 x1 x2 x3 x4 x5 s56 hw)
  · replace hw := hw.2 c57
    refine v_iload X 5 rfl (gD D_X12_face_0 25 rfl) ?_
    refine v_iload_n X 4 rfl (gD D_X12_face_0 26 rfl) rfl ?_
    refine v_iload X 0 rfl (gD D_X12_face_0 27 rfl) ?_
    refine v_callSi X (As := [.int x4, .int x3, .int xs0]) (rest := []) (nA := 3) 0 0 0 0 (fun ht => c_X12_isIn htr (ht.sub [] rfl) hw) (Or.inl rfl) lk_sRX12_183 (by decide +kernel) rfl rfl (by decide) (by decide) (by decide) rfl rfl (gD D_X12_face_0 28 rfl) (fun x88 s89 hq _ _ => ?_)
    replace hw := hq
    clear hq
    refine v_if_eq X 64 (gD D_X12_face_0 29 rfl) (by decide) (fun c90 => ?_) (fun c90 => ?_)
    · replace hw := hw.1 c90
      exact v_sub [0] [1, 2, 3, 4, 5, 6] rfl rfl (t_X12_face_64 X hr hin htr  a0 x1 x2 x3 x4 x5 s89 hw)
    · replace hw := hw.2 c90
      refine v_iconst X 1 (gD D_X12_face_0 30 rfl) (by decide) ?_
      refine v_goto X 65 (gD D_X12_face_0 31 rfl) (by decide) ?_
      exact v_sub [0] [1, 2, 3, 4, 5, 6] rfl rfl (t_X12_face_65 X hr hin htr  a0 x1 x2 x3 x4 x5 1 s89 hw)
set_option maxRecDepth 100000 in
set_option maxHeartbeats 4000000 in
theorem t_X12_face_24 {p : Program} {l : Launch} {e : Env} {s : State} {m : MethodId} {args : Array Value} {below : List Frame} {meth : Method} {c : Code} {G : GX} {σ0 : St} {mc ms : Nat} {Q : St → Prop} (X : VC p l (rmD 3 mc ms) s m args meth c G 3 mc ms 9 RX12 cX12_face) (hr : meth.sig.returnType = none) (hin : meth.name = yX12_face.name) (htr : l.stackTraces = false) : ∀ (a0 : Nat) (x1 : Int32) (x2 : Int32) (x3 : Int32) (x4 : Int32) (xs0 : Int32) (σ : St), w_X12_face_24 Q  a0 x1 x2 x3 x4 xs0 σ → V p l e (rmD 3 mc ms) s m args below meth c (MQ below (va_Qv Q (gB G 2 σ0) (GA G)) args s mc ms (GA G)) G 2 σ0 mc ms 9 σ 0 0 [(some a0, 13)] 24 [(0, va_rf (some a0)), (1, .int x1), (2, .int x2), (3, .int x3), (4, .int x4)] [.int xs0] := by
  intro a0 x1 x2 x3 x4 xs0 σ hw
  unfold w_X12_face_24 at hw
  refine v_istore X [(5, .int xs0), (0, va_rf (some a0)), (1, .int x1), (2, .int x2), (3, .int x3), (4, .int x4)] (gD D_X12_face_0 12 rfl) (by decide) rfl ?_
  refine v_iload_n X 3 rfl (gD D_X12_face_0 13 rfl) rfl ?_
  refine v_iconst X (-1) (gD D_X12_face_0 14 rfl) (by decide) ?_
  refine v_icmp_ne X 35 (gD D_X12_face_0 15 rfl) (by decide) (fun c54 => ?_) (fun c54 => ?_)
  · replace hw := hw.1 c54
    refine v_bipush X 99 (gD D_X12_face_0 18 rfl) (by decide) ?_
    exact v_sub [0] [1, 2, 3, 4, 5, 0] rfl rfl (t_X12_face_37 X hr hin htr  a0 x1 x2 x3 x4 xs0 99 σ hw)
  · replace hw := hw.2 c54
    refine v_iconst X 0 (gD D_X12_face_0 16 rfl) (by decide) ?_
    refine v_goto X 37 (gD D_X12_face_0 17 rfl) (by decide) ?_
    exact v_sub [0] [1, 2, 3, 4, 5, 0] rfl rfl (t_X12_face_37 X hr hin htr  a0 x1 x2 x3 x4 xs0 0 σ hw)
set_option maxRecDepth 100000 in
set_option maxHeartbeats 4000000 in
theorem t_X12_face_23 {p : Program} {l : Launch} {e : Env} {s : State} {m : MethodId} {args : Array Value} {below : List Frame} {meth : Method} {c : Code} {G : GX} {σ0 : St} {mc ms : Nat} {Q : St → Prop} (X : VC p l (rmD 3 mc ms) s m args meth c G 3 mc ms 9 RX12 cX12_face) (hr : meth.sig.returnType = none) (hin : meth.name = yX12_face.name) (htr : l.stackTraces = false) : ∀ (a0 : Nat) (x1 : Int32) (x2 : Int32) (x3 : Int32) (x4 : Int32) (σ : St), w_X12_face_23 Q  a0 x1 x2 x3 x4 σ → V p l e (rmD 3 mc ms) s m args below meth c (MQ below (va_Qv Q (gB G 2 σ0) (GA G)) args s mc ms (GA G)) G 2 σ0 mc ms 9 σ 0 0 [(some a0, 13)] 23 [(0, va_rf (some a0)), (1, .int x1), (2, .int x2), (3, .int x3), (4, .int x4)] [] := by
  intro a0 x1 x2 x3 x4 σ hw
  unfold w_X12_face_23 at hw
  refine v_iconst X 0 (gD D_X12_face_0 11 rfl) (by decide) ?_
  exact v_sub [0] [0, 1, 2, 3, 4] rfl rfl (t_X12_face_24 X hr hin htr  a0 x1 x2 x3 x4 0 σ hw)
set_option maxRecDepth 100000 in
set_option maxHeartbeats 4000000 in
theorem c_X12_face {l : Launch} {G : GX} (htr : l.stackTraces = false) {σ : St} {a0 : Nat} {x1 : Int32} {x2 : Int32} {x3 : Int32} {x4 : Int32} {Q : St → Prop} (ht : tvOk σ [(some a0, 13)]) (hw : w_X12_face a0 x1 x2 x3 x4 σ Q) : MV l G 2 σ yX12_face cX12_face 9 3 0 0 [va_rf (some a0), .int x1, .int x2, .int x3, .int x4] Q := by
  unfold w_X12_face at hw
  refine m_start RX12 (by decide) htr ht (Nat.le_of_ble_eq_true rfl) rfl (lv := [(0, va_rf (some a0)), (1, .int x1), (2, .int x2), (3, .int x3), (4, .int x4)]) (d := 2) (fun p e s m args below meth c X hr hin => ?_)
  refine v_iload_n X 1 rfl (gD D_X12_face_0 0 rfl) rfl ?_
  refine v_callSi X (As := [.int x1]) (rest := []) (nA := 1) 0 0 0 0 (fun ht => c_X12_isSlot htr (ht.sub [] rfl) hw) (Or.inl rfl) lk_sRX12_217 (by decide +kernel) rfl rfl (by decide) (by decide) (by decide) rfl rfl (gD D_X12_face_0 1 rfl) (fun x51 s52 hq _ _ => ?_)
  replace hw := hq
  clear hq
  refine v_if_eq X 23 (gD D_X12_face_0 2 rfl) (by decide) (fun c53 => ?_) (fun c53 => ?_)
  · replace hw := hw.1 c53
    exact v_sub [0] [0, 1, 2, 3, 4] rfl rfl (t_X12_face_23 X hr hin htr  a0 x1 x2 x3 x4 s52 hw)
  · replace hw := hw.2 c53
    refine v_iload_n X 2 rfl (gD D_X12_face_0 3 rfl) rfl ?_
    refine v_iconst X (-1) (gD D_X12_face_0 4 rfl) (by decide) ?_
    refine v_icmp_eq X 19 (gD D_X12_face_0 5 rfl) (by decide) (fun c91 => ?_) (fun c91 => ?_)
    · replace hw := hw.1 c91
      refine v_iconst X 1 (gD D_X12_face_0 9 rfl) (by decide) ?_
      refine v_goto X 24 (gD D_X12_face_0 10 rfl) (by decide) ?_
      exact v_sub [0] [0, 1, 2, 3, 4] rfl rfl (t_X12_face_24 X hr hin htr  a0 x1 x2 x3 x4 1 s52 hw)
    · replace hw := hw.2 c91
      refine v_iload_n X 2 rfl (gD D_X12_face_0 6 rfl) rfl ?_
      refine v_callSi X (As := [.int x2]) (rest := []) (nA := 1) 0 0 0 0 (fun ht => c_X12_isItem htr (ht.sub [] rfl) hw) (Or.inl rfl) lk_sRX12_226 (by decide +kernel) rfl rfl (by decide) (by decide) (by decide) rfl rfl (gD D_X12_face_0 7 rfl) (fun x92 s93 hq _ _ => ?_)
      replace hw := hq
      clear hq
      refine v_if_eq X 23 (gD D_X12_face_0 8 rfl) (by decide) (fun c94 => ?_) (fun c94 => ?_)
      · replace hw := hw.1 c94
        exact v_sub [0] [0, 1, 2, 3, 4] rfl rfl (t_X12_face_23 X hr hin htr  a0 x1 x2 x3 x4 s93 hw)
      · replace hw := hw.2 c94
        refine v_iconst X 1 (gD D_X12_face_0 9 rfl) (by decide) ?_
        refine v_goto X 24 (gD D_X12_face_0 10 rfl) (by decide) ?_
        exact v_sub [0] [0, 1, 2, 3, 4] rfl rfl (t_X12_face_24 X hr hin htr  a0 x1 x2 x3 x4 1 s93 hw)
set_option maxRecDepth 100000 in
set_option maxHeartbeats 4000000 in
theorem c_X12_free {l : Launch} {G : GX} (htr : l.stackTraces = false) {σ : St} {a0 : Nat} {x1 : Int32} {x2 : Int32} {Q : Int32 → St → Prop} (ht : tvOk σ [(some a0, 13)]) (hw : w_X12_free a0 x1 x2 σ Q) : MI l G 2 σ yX12_free cX12_free 3 (some .int) 3 0 0 [va_rf (some a0), .int x1, .int x2] Q := by
  unfold w_X12_free at hw
  refine m_start RX12 (by decide) htr ht (Nat.le_of_ble_eq_true rfl) rfl (lv := [(0, va_rf (some a0)), (1, .int x1), (2, .int x2)]) (d := 2) (fun p e s m args below meth c X hr hin => ?_)
  refine v_aload_n X 0 rfl (gD D_X12_free_0 0 rfl) rfl ?_
  refine v_iload_n X 1 rfl (gD D_X12_free_0 1 rfl) rfl ?_
  refine v_bipush X 18 (gD D_X12_free_0 2 rfl) (by decide) ?_
  refine v_iload_n X 2 rfl (gD D_X12_free_0 3 rfl) rfl ?_
  refine v_callVi X (As := [.int x1, .int 18, .int x2]) (rest := []) (nA := 3) 0 0 0 0 (fun ht => c_X12_isAsked htr (ht.sub [0] rfl) hw) (Or.inl rfl) 0 (κ := 13) rfl (by decide) (rfl : gCl[12]? = some (RX12, TX12, 65)) lk_vRX12_235 (by decide +kernel) rfl rfl (by decide) (by decide) (by decide) rfl rfl (gD D_X12_free_0 4 rfl) (fun x51 s52 hq _ _ => ?_)
  replace hw := hq
  clear hq
  refine v_if_eq X 20 (gD D_X12_free_0 5 rfl) (by decide) (fun c53 => ?_) (fun c53 => ?_)
  · replace hw := hw.1 c53
    refine v_iconst X 0 (gD D_X12_free_0 11 rfl) (by decide) ?_
    exact v_iret X hr hw (gD D_X12_free_0 12 rfl)
  · replace hw := hw.2 c53
    refine v_aload_n X 0 rfl (gD D_X12_free_0 6 rfl) rfl ?_
    refine v_iload_n X 1 rfl (gD D_X12_free_0 7 rfl) rfl ?_
    refine v_iload_n X 2 rfl (gD D_X12_free_0 8 rfl) rfl ?_
    refine v_callVi X (As := [.int x1, .int x2]) (rest := []) (nA := 2) 0 0 0 0 (fun ht => c_X12_freeAt htr (ht.sub [0] rfl) hw) (Or.inl rfl) 0 (κ := 13) rfl (by decide) (rfl : gCl[12]? = some (RX12, TX12, 65)) lk_vRX12_238 (by decide +kernel) rfl rfl (by decide) (by decide) (by decide) rfl rfl (gD D_X12_free_0 9 rfl) (fun x54 s55 hq _ _ => ?_)
    replace hw := hq
    clear hq
    refine v_goto X 21 (gD D_X12_free_0 10 rfl) (by decide) ?_
    exact v_iret X hr hw (gD D_X12_free_0 12 rfl)
set_option maxRecDepth 100000 in
set_option maxHeartbeats 4000000 in
theorem t_X12_holdsFor_219 {p : Program} {l : Launch} {e : Env} {s : State} {m : MethodId} {args : Array Value} {below : List Frame} {meth : Method} {c : Code} {G : GX} {σ0 : St} {mc ms : Nat} {Q : Int32 → St → Prop} (X : VC p l (rmD 3 mc ms) s m args meth c G 3 mc ms 12 RX12 cX12_holdsFor) (hr : meth.sig.returnType = (some .int)) (hin : meth.name = yX12_holdsFor.name) (htr : l.stackTraces = false) {K33 : Nat → Int32 → Int32 → Int32 → Int32 → Int32 → Int32 → St → Prop} (hK33 : ∀ (a0 : Nat) (x1 : Int32) (x3 : Int32) (x4 : Int32) (x5 : Int32) (x6 : Int32) (x7 : Int32) (σ : St), K33 a0 x1 x3 x4 x5 x6 x7 σ → V p l e (rmD 3 mc ms) s m args below meth c (MQ below (va_Qi Q (gB G 2 σ0) (GA G)) args s mc ms (GA G)) G 2 σ0 mc ms 12 σ 0 0 [(some a0, 13)] 33 [(0, va_rf (some a0)), (1, .int x1), (3, .int x3), (4, .int x4), (5, .int x5), (6, .int x6), (7, .int x7)] []) : ∀ (a0 : Nat) (x1 : Int32) (x3 : Int32) (x4 : Int32) (x5 : Int32) (x6 : Int32) (x7 : Int32) (σ : St), w_X12_holdsFor_219 Q K33 a0 x1 x3 x4 x5 x6 x7 σ → V p l e (rmD 3 mc ms) s m args below meth c (MQ below (va_Qi Q (gB G 2 σ0) (GA G)) args s mc ms (GA G)) G 2 σ0 mc ms 12 σ 0 0 [(some a0, 13)] 219 [(0, va_rf (some a0)), (1, .int x1), (3, .int x3), (4, .int x4), (5, .int x5), (6, .int x6), (7, .int x7)] [] := by
  intro a0 x1 x3 x4 x5 x6 x7 σ hw
  unfold w_X12_holdsFor_219 at hw
  refine v_aload_n X 0 rfl (gD D_X12_holdsFor_1 21 rfl) rfl ?_
  refine v_iload X 3 rfl (gD D_X12_holdsFor_1 22 rfl) ?_
  refine v_iload X 6 rfl (gD D_X12_holdsFor_1 23 rfl) ?_
  refine v_callVi X (As := [.int x4, .int x7]) (rest := []) (nA := 2) 0 0 0 0 (fun ht => c_X12_nextLot htr (ht.sub [0] rfl) hw) (Or.inl rfl) 0 (κ := 13) rfl (by decide) (rfl : gCl[12]? = some (RX12, TX12, 65)) lk_vRX12_278 (by decide +kernel) rfl rfl (by decide) (by decide) (by decide) rfl rfl (gD D_X12_holdsFor_1 24 rfl) (fun x69 s70 hq _ _ => ?_)
  replace hw := hq
  clear hq
  refine v_istore X [(7, .int x69), (0, va_rf (some a0)), (1, .int x1), (3, .int x3), (4, .int x4), (5, .int x5), (6, .int x6)] (gD D_X12_holdsFor_1 25 rfl) (by decide) rfl ?_
  refine v_goto X 33 (gD D_X12_holdsFor_1 26 rfl) (by decide) ?_
  exact v_sub [0] [1, 2, 3, 4, 5, 6, 0] rfl rfl (hK33 a0 x1 x3 x4 x5 x6 x69 s70 hw)
set_option maxRecDepth 100000 in
set_option maxHeartbeats 4000000 in
theorem t_X12_holdsFor_117 {p : Program} {l : Launch} {e : Env} {s : State} {m : MethodId} {args : Array Value} {below : List Frame} {meth : Method} {c : Code} {G : GX} {σ0 : St} {mc ms : Nat} {Q : Int32 → St → Prop} (X : VC p l (rmD 3 mc ms) s m args meth c G 3 mc ms 12 RX12 cX12_holdsFor) (hr : meth.sig.returnType = (some .int)) (hin : meth.name = yX12_holdsFor.name) (htr : l.stackTraces = false) {K33 : Nat → Int32 → Int32 → Int32 → Int32 → Int32 → Int32 → St → Prop} (hK33 : ∀ (a0 : Nat) (x1 : Int32) (x3 : Int32) (x4 : Int32) (x5 : Int32) (x6 : Int32) (x7 : Int32) (σ : St), K33 a0 x1 x3 x4 x5 x6 x7 σ → V p l e (rmD 3 mc ms) s m args below meth c (MQ below (va_Qi Q (gB G 2 σ0) (GA G)) args s mc ms (GA G)) G 2 σ0 mc ms 12 σ 0 0 [(some a0, 13)] 33 [(0, va_rf (some a0)), (1, .int x1), (3, .int x3), (4, .int x4), (5, .int x5), (6, .int x6), (7, .int x7)] []) {K70 : Nat → Int32 → Int32 → Int32 → Int32 → Int32 → Int32 → Int32 → Int32 → St → Prop} (hK70 : ∀ (a0 : Nat) (x1 : Int32) (x3 : Int32) (x4 : Int32) (x5 : Int32) (x6 : Int32) (x7 : Int32) (x8 : Int32) (x9 : Int32) (σ : St), K70 a0 x1 x3 x4 x5 x6 x7 x8 x9 σ → V p l e (rmD 3 mc ms) s m args below meth c (MQ below (va_Qi Q (gB G 2 σ0) (GA G)) args s mc ms (GA G)) G 2 σ0 mc ms 12 σ 0 0 [(some a0, 13)] 70 [(0, va_rf (some a0)), (1, .int x1), (3, .int x3), (4, .int x4), (5, .int x5), (6, .int x6), (7, .int x7), (8, .int x8), (9, .int x9)] []) : ∀ (a0 : Nat) (x1 : Int32) (x3 : Int32) (x4 : Int32) (x5 : Int32) (x6 : Int32) (x7 : Int32) (x8 : Int32) (x9 : Int32) (x10 : Int32) (xs0 : Int32) (xs1 : Int32) (σ : St), w_X12_holdsFor_117 Q K33 K70 a0 x1 x3 x4 x5 x6 x7 x8 x9 x10 xs0 xs1 σ → V p l e (rmD 3 mc ms) s m args below meth c (MQ below (va_Qi Q (gB G 2 σ0) (GA G)) args s mc ms (GA G)) G 2 σ0 mc ms 12 σ 0 0 [(some a0, 13)] 117 [(0, va_rf (some a0)), (1, .int x1), (3, .int x3), (4, .int x4), (5, .int x5), (6, .int x6), (7, .int x7), (8, .int x8), (9, .int x9), (10, .int x10)] [.int xs1, .int xs0] := by
  intro a0 x1 x3 x4 x5 x6 x7 x8 x9 x10 xs0 xs1 σ hw
  unfold w_X12_holdsFor_117 at hw
  refine v_icmp_ne X 213 (gD D_X12_holdsFor_0 67 rfl) (by decide) (fun c78 => ?_) (fun c78 => ?_)
  · replace hw := hw.1 c78
    refine v_iinc X (x9 + 1) 8 rfl [(9, .int (x9 + 1)), (0, va_rf (some a0)), (1, .int x1), (3, .int x3), (4, .int x4), (5, .int x5), (6, .int x6), (7, .int x7), (8, .int x8), (10, .int x10)] (gD D_X12_holdsFor_1 19 rfl) rfl (by decide) rfl ?_
    refine v_goto X 70 (gD D_X12_holdsFor_1 20 rfl) (by decide) ?_
    exact v_sub [0] [1, 2, 3, 4, 5, 6, 7, 8, 0] rfl rfl (hK70 a0 x1 x3 x4 x5 x6 x7 x8 (x9 + 1) σ hw)
  · replace hw := hw.2 c78
    refine v_aload_n X 0 rfl (gD D_X12_holdsFor_0 68 rfl) rfl ?_
    refine v_iload X 9 rfl (gD D_X12_holdsFor_0 69 rfl) ?_
    refine v_iload X 6 rfl (gD D_X12_holdsFor_0 70 rfl) ?_
    refine v_callVi X (As := [.int x10, .int x7]) (rest := []) (nA := 2) 0 0 0 0 (fun ht => c_X12_freeAt htr (ht.sub [0] rfl) hw) (Or.inl rfl) 0 (κ := 13) rfl (by decide) (rfl : gCl[12]? = some (RX12, TX12, 65)) lk_vRX12_238 (by decide +kernel) rfl rfl (by decide) (by decide) (by decide) rfl rfl (gD D_X12_holdsFor_0 71 rfl) (fun x79 s80 hq _ _ => ?_)
    replace hw := hq
    clear hq
    refine v_iload X 4 rfl (gD D_X12_holdsFor_0 72 rfl) ?_
    refine v_iload X 5 rfl (gD D_X12_holdsFor_0 73 rfl) ?_
    refine v_isub X (gD D_X12_holdsFor_0 74 rfl) ?_
    refine v_callSi X (As := [.int x79, .int (x5 - x6)]) (rest := []) (nA := 2) 0 0 0 0 (fun ht => c_X12_less htr (ht.sub [] rfl) hw) (Or.inl rfl) lk_sRX12_281 (by decide +kernel) rfl rfl (by decide) (by decide) (by decide) rfl rfl (gD D_X12_holdsFor_0 75 rfl) (fun x81 s82 hq _ _ => ?_)
    replace hw := hq
    clear hq
    refine v_istore X [(11, .int x81), (0, va_rf (some a0)), (1, .int x1), (3, .int x3), (4, .int x4), (5, .int x5), (6, .int x6), (7, .int x7), (8, .int x8), (9, .int x9), (10, .int x10)] (gD D_X12_holdsFor_0 76 rfl) (by decide) rfl ?_
    refine v_iload X 0 rfl (gD D_X12_holdsFor_0 77 rfl) ?_
    refine v_if_le X 213 (gD D_X12_holdsFor_0 78 rfl) (by decide) (fun c83 => ?_) (fun c83 => ?_)
    · replace hw := hw.1 c83
      refine v_iinc X (x9 + 1) 9 rfl [(9, .int (x9 + 1)), (11, .int x81), (0, va_rf (some a0)), (1, .int x1), (3, .int x3), (4, .int x4), (5, .int x5), (6, .int x6), (7, .int x7), (8, .int x8), (10, .int x10)] (gD D_X12_holdsFor_1 19 rfl) rfl (by decide) rfl ?_
      refine v_goto X 70 (gD D_X12_holdsFor_1 20 rfl) (by decide) ?_
      exact v_sub [0] [2, 3, 4, 5, 6, 7, 8, 9, 0] rfl rfl (hK70 a0 x1 x3 x4 x5 x6 x7 x8 (x9 + 1) s82 hw)
    · replace hw := hw.2 c83
      refine v_aload_n X 1 rfl (gD D_X12_holdsFor_0 79 rfl) rfl ?_
      refine v_getR X RX12 TX12 65 13 12 (by decide) rfl gin12 40 1240 RX12 (Or.inl rfl) 0 21 rfl rfl rfl (by decide) lk_fRX12_107 (gD D_X12_holdsFor_0 80 rfl) (fun o84 eo84 => ?_)
      replace hw := hw o84 eo84
      refine v_aload_n X 1 rfl (gD D_X12_holdsFor_0 81 rfl) rfl ?_
      refine v_getI X RX12 TX12 65 13 12 (by decide) rfl gin12 39 1239 RX12 (Or.inl rfl) 1 rfl rfl (by decide) lk_fRX12_203 (gD D_X12_holdsFor_0 82 rfl) ?_
      refine v_iload_n X 3 rfl (gD D_X12_holdsFor_0 83 rfl) rfl ?_
      obtain ⟨a85, rfl, hw⟩ := hw
      obtain ⟨h86, hw⟩ := hw
      refine v_iast X 0 rfl (by decide) (Or.inl rfl) h86 (gD D_X12_holdsFor_0 84 rfl) (fun s87 es87 => ?_)
      replace hw := hw s87 es87
      refine v_aload_n X 1 rfl (gD D_X12_holdsFor_0 85 rfl) rfl ?_
      refine v_getR X RX12 TX12 65 13 12 (by decide) rfl gin12 41 1241 RX12 (Or.inl rfl) 1 21 rfl rfl rfl (by decide) lk_fRX12_110 (gD D_X12_holdsFor_0 86 rfl) (fun o88 eo88 => ?_)
      replace hw := hw o88 eo88
      refine v_aload_n X 1 rfl (gD D_X12_holdsFor_0 87 rfl) rfl ?_
      refine v_getI X RX12 TX12 65 13 12 (by decide) rfl gin12 39 1239 RX12 (Or.inl rfl) 2 rfl rfl (by decide) lk_fRX12_203 (gD D_X12_holdsFor_0 88 rfl) ?_
      refine v_iload X 10 rfl (gD D_X12_holdsFor_0 89 rfl) ?_
      obtain ⟨a89, rfl, hw⟩ := hw
      obtain ⟨h90, hw⟩ := hw
      refine v_iast X 0 rfl (by decide) (Or.inl rfl) h90 (gD D_X12_holdsFor_0 90 rfl) (fun s91 es91 => ?_)
      replace hw := hw s91 es91
      refine v_aload_n X 1 rfl (gD D_X12_holdsFor_0 91 rfl) rfl ?_
      refine v_getR X RX12 TX12 65 13 12 (by decide) rfl gin12 42 1242 RX12 (Or.inl rfl) 2 21 rfl rfl rfl (by decide) lk_fRX12_113 (gD D_X12_holdsFor_0 92 rfl) (fun o92 eo92 => ?_)
      replace hw := hw o92 eo92
      refine v_aload_n X 1 rfl (gD D_X12_holdsFor_0 93 rfl) rfl ?_
      refine v_getI X RX12 TX12 65 13 12 (by decide) rfl gin12 39 1239 RX12 (Or.inl rfl) 3 rfl rfl (by decide) lk_fRX12_203 (gD D_X12_holdsFor_0 94 rfl) ?_
      refine v_iload X 7 rfl (gD D_X12_holdsFor_0 95 rfl) ?_
      obtain ⟨a93, rfl, hw⟩ := hw
      obtain ⟨h94, hw⟩ := hw
      refine v_iast X 0 rfl (by decide) (Or.inl rfl) h94 (gD D_X12_holdsFor_0 96 rfl) (fun s95 es95 => ?_)
      replace hw := hw s95 es95
      refine v_aload_n X 1 rfl (gD D_X12_holdsFor_0 97 rfl) rfl ?_
      refine v_getR X RX12 TX12 65 13 12 (by decide) rfl gin12 43 1243 RX12 (Or.inl rfl) 3 21 rfl rfl rfl (by decide) lk_fRX12_116 (gD D_X12_holdsFor_0 98 rfl) (fun o96 eo96 => ?_)
      replace hw := hw o96 eo96
      refine v_aload_n X 1 rfl (gD D_X12_holdsFor_0 99 rfl) rfl ?_
      refine v_getI X RX12 TX12 65 13 12 (by decide) rfl gin12 39 1239 RX12 (Or.inl rfl) 4 rfl rfl (by decide) lk_fRX12_203 (gD D_X12_holdsFor_1 0 rfl) ?_
      refine v_iload X 0 rfl (gD D_X12_holdsFor_1 1 rfl) ?_
      obtain ⟨a97, rfl, hw⟩ := hw
      obtain ⟨h98, hw⟩ := hw
      refine v_iast X 0 rfl (by decide) (Or.inl rfl) h98 (gD D_X12_holdsFor_1 2 rfl) (fun s99 es99 => ?_)
      replace hw := hw s99 es99
      refine v_aload_n X 1 rfl (gD D_X12_holdsFor_1 3 rfl) rfl ?_
      refine v_getR X RX12 TX12 65 13 12 (by decide) rfl gin12 44 1244 RX12 (Or.inl rfl) 4 21 rfl rfl rfl (by decide) lk_fRX12_119 (gD D_X12_holdsFor_1 4 rfl) (fun o100 eo100 => ?_)
      replace hw := hw o100 eo100
      refine v_aload_n X 1 rfl (gD D_X12_holdsFor_1 5 rfl) rfl ?_
      refine v_getI X RX12 TX12 65 13 12 (by decide) rfl gin12 39 1239 RX12 (Or.inl rfl) 5 rfl rfl (by decide) lk_fRX12_203 (gD D_X12_holdsFor_1 6 rfl) ?_
      refine v_iconst X (-1) (gD D_X12_holdsFor_1 7 rfl) (by decide) ?_
      obtain ⟨a101, rfl, hw⟩ := hw
      obtain ⟨h102, hw⟩ := hw
      refine v_iast X 0 rfl (by decide) (Or.inl rfl) h102 (gD D_X12_holdsFor_1 8 rfl) (fun s103 es103 => ?_)
      replace hw := hw s103 es103
      refine v_aload_n X 1 rfl (gD D_X12_holdsFor_1 9 rfl) rfl ?_
      refine v_dup X (gD D_X12_holdsFor_1 10 rfl) (rf_cat _) ?_
      refine v_getI X RX12 TX12 65 13 12 (by decide) rfl gin12 39 1239 RX12 (Or.inl rfl) 5 rfl rfl (by decide) lk_fRX12_203 (gD D_X12_holdsFor_1 11 rfl) ?_
      refine v_iconst X 1 (gD D_X12_holdsFor_1 12 rfl) (by decide) ?_
      refine v_iadd X (gD D_X12_holdsFor_1 13 rfl) ?_
      refine v_putI X RX12 TX12 65 13 12 (by decide) rfl gin12 39 1239 tyX12 tyX12_ok nmX12 RX12 (Or.inl rfl) 5 rfl .int (int_fit _) rfl (by decide) (Or.inl rfl) lk_fRX12_203 rfl rfl (gD D_X12_holdsFor_1 14 rfl) (fun s104 es104 => ?_)
      replace hw := hw s104 es104
      refine v_iload X 6 rfl (gD D_X12_holdsFor_1 15 rfl) ?_
      refine v_iload X 0 rfl (gD D_X12_holdsFor_1 16 rfl) ?_
      refine v_iadd X (gD D_X12_holdsFor_1 17 rfl) ?_
      refine v_topi (fun x105 ex105 => ?_)
      replace hw := hw x105 ex105
      refine v_istore X [(6, .int x105), (11, .int x81), (0, va_rf (some a0)), (1, .int x1), (3, .int x3), (4, .int x4), (5, .int x5), (7, .int x7), (8, .int x8), (9, .int x9), (10, .int x10)] (gD D_X12_holdsFor_1 18 rfl) (by decide) rfl ?_
      refine v_iinc X (x9 + 1) 9 rfl [(9, .int (x9 + 1)), (6, .int x105), (11, .int x81), (0, va_rf (some a0)), (1, .int x1), (3, .int x3), (4, .int x4), (5, .int x5), (7, .int x7), (8, .int x8), (10, .int x10)] (gD D_X12_holdsFor_1 19 rfl) rfl (by decide) rfl ?_
      refine v_goto X 70 (gD D_X12_holdsFor_1 20 rfl) (by decide) ?_
      exact v_sub [5] [3, 4, 5, 6, 7, 1, 8, 9, 0] rfl rfl (hK70 a0 x1 x3 x4 x5 x105 x7 x8 (x9 + 1) s104 hw)
set_option maxRecDepth 100000 in
set_option maxHeartbeats 4000000 in
theorem t_X12_holdsFor_101 {p : Program} {l : Launch} {e : Env} {s : State} {m : MethodId} {args : Array Value} {below : List Frame} {meth : Method} {c : Code} {G : GX} {σ0 : St} {mc ms : Nat} {Q : Int32 → St → Prop} (X : VC p l (rmD 3 mc ms) s m args meth c G 3 mc ms 12 RX12 cX12_holdsFor) (hr : meth.sig.returnType = (some .int)) (hin : meth.name = yX12_holdsFor.name) (htr : l.stackTraces = false) {K33 : Nat → Int32 → Int32 → Int32 → Int32 → Int32 → Int32 → St → Prop} (hK33 : ∀ (a0 : Nat) (x1 : Int32) (x3 : Int32) (x4 : Int32) (x5 : Int32) (x6 : Int32) (x7 : Int32) (σ : St), K33 a0 x1 x3 x4 x5 x6 x7 σ → V p l e (rmD 3 mc ms) s m args below meth c (MQ below (va_Qi Q (gB G 2 σ0) (GA G)) args s mc ms (GA G)) G 2 σ0 mc ms 12 σ 0 0 [(some a0, 13)] 33 [(0, va_rf (some a0)), (1, .int x1), (3, .int x3), (4, .int x4), (5, .int x5), (6, .int x6), (7, .int x7)] []) {K70 : Nat → Int32 → Int32 → Int32 → Int32 → Int32 → Int32 → Int32 → Int32 → St → Prop} (hK70 : ∀ (a0 : Nat) (x1 : Int32) (x3 : Int32) (x4 : Int32) (x5 : Int32) (x6 : Int32) (x7 : Int32) (x8 : Int32) (x9 : Int32) (σ : St), K70 a0 x1 x3 x4 x5 x6 x7 x8 x9 σ → V p l e (rmD 3 mc ms) s m args below meth c (MQ below (va_Qi Q (gB G 2 σ0) (GA G)) args s mc ms (GA G)) G 2 σ0 mc ms 12 σ 0 0 [(some a0, 13)] 70 [(0, va_rf (some a0)), (1, .int x1), (3, .int x3), (4, .int x4), (5, .int x5), (6, .int x6), (7, .int x7), (8, .int x8), (9, .int x9)] []) : ∀ (a0 : Nat) (x1 : Int32) (x3 : Int32) (x4 : Int32) (x5 : Int32) (x6 : Int32) (x7 : Int32) (x8 : Int32) (x9 : Int32) (x10 : Int32) (xs0 : Int32) (σ : St), w_X12_holdsFor_101 Q K33 K70 a0 x1 x3 x4 x5 x6 x7 x8 x9 x10 xs0 σ → V p l e (rmD 3 mc ms) s m args below meth c (MQ below (va_Qi Q (gB G 2 σ0) (GA G)) args s mc ms (GA G)) G 2 σ0 mc ms 12 σ 0 0 [(some a0, 13)] 101 [(0, va_rf (some a0)), (1, .int x1), (3, .int x3), (4, .int x4), (5, .int x5), (6, .int x6), (7, .int x7), (8, .int x8), (9, .int x9), (10, .int x10)] [.int xs0] := by
  intro a0 x1 x3 x4 x5 x6 x7 x8 x9 x10 xs0 σ hw
  unfold w_X12_holdsFor_101 at hw
  refine v_aload_n X 0 rfl (gD D_X12_holdsFor_0 58 rfl) rfl ?_
  refine v_getR X RX12 TX12 65 13 12 (by decide) rfl gin12 6 1206 RX12 (Or.inl rfl) 0 21 rfl rfl rfl (by decide) lk_fRX12_16 (gD D_X12_holdsFor_0 59 rfl) (fun o74 eo74 => ?_)
  replace hw := hw o74 eo74
  refine v_iload X 9 rfl (gD D_X12_holdsFor_0 60 rfl) ?_
  obtain ⟨a75, rfl, hw⟩ := hw
  obtain ⟨h76, hw⟩ := hw
  refine v_iald X 0 rfl (by decide) h76 (gD D_X12_holdsFor_0 61 rfl) ?_
  refine v_iconst X (-1) (gD D_X12_holdsFor_0 62 rfl) (by decide) ?_
  refine v_icmp_eq X 116 (gD D_X12_holdsFor_0 63 rfl) (by decide) (fun c77 => ?_) (fun c77 => ?_)
  · replace hw := hw.1 c77
    refine v_iconst X 0 (gD D_X12_holdsFor_0 66 rfl) (by decide) ?_
    exact v_sub [1] [0, 1, 2, 3, 4, 5, 6, 7, 8, 9] rfl rfl (t_X12_holdsFor_117 X hr hin htr hK33 hK70 a0 x1 x3 x4 x5 x6 x7 x8 x9 x10 xs0 0 σ hw)
  · replace hw := hw.2 c77
    refine v_iconst X 1 (gD D_X12_holdsFor_0 64 rfl) (by decide) ?_
    refine v_goto X 117 (gD D_X12_holdsFor_0 65 rfl) (by decide) ?_
    exact v_sub [1] [0, 1, 2, 3, 4, 5, 6, 7, 8, 9] rfl rfl (t_X12_holdsFor_117 X hr hin htr hK33 hK70 a0 x1 x3 x4 x5 x6 x7 x8 x9 x10 xs0 1 σ hw)
set_option maxRecDepth 100000 in
set_option maxHeartbeats 4000000 in
theorem t_X12_holdsFor_70 {p : Program} {l : Launch} {e : Env} {s : State} {m : MethodId} {args : Array Value} {below : List Frame} {meth : Method} {c : Code} {G : GX} {σ0 : St} {mc ms : Nat} {Q : Int32 → St → Prop} (X : VC p l (rmD 3 mc ms) s m args meth c G 3 mc ms 12 RX12 cX12_holdsFor) (hr : meth.sig.returnType = (some .int)) (hin : meth.name = yX12_holdsFor.name) (htr : l.stackTraces = false) {K33 : Nat → Int32 → Int32 → Int32 → Int32 → Int32 → Int32 → St → Prop} (hK33 : ∀ (a0 : Nat) (x1 : Int32) (x3 : Int32) (x4 : Int32) (x5 : Int32) (x6 : Int32) (x7 : Int32) (σ : St), K33 a0 x1 x3 x4 x5 x6 x7 σ → V p l e (rmD 3 mc ms) s m args below meth c (MQ below (va_Qi Q (gB G 2 σ0) (GA G)) args s mc ms (GA G)) G 2 σ0 mc ms 12 σ 0 0 [(some a0, 13)] 33 [(0, va_rf (some a0)), (1, .int x1), (3, .int x3), (4, .int x4), (5, .int x5), (6, .int x6), (7, .int x7)] []) : ∀ (f : Nat) (a0 : Nat) (x1 : Int32) (x3 : Int32) (x4 : Int32) (x5 : Int32) (x6 : Int32) (x7 : Int32) (x8 : Int32) (x9 : Int32) (σ : St), w_X12_holdsFor_70 Q K33 f a0 x1 x3 x4 x5 x6 x7 x8 x9 σ → V p l e (rmD 3 mc ms) s m args below meth c (MQ below (va_Qi Q (gB G 2 σ0) (GA G)) args s mc ms (GA G)) G 2 σ0 mc ms 12 σ 0 0 [(some a0, 13)] 70 [(0, va_rf (some a0)), (1, .int x1), (3, .int x3), (4, .int x4), (5, .int x5), (6, .int x6), (7, .int x7), (8, .int x8), (9, .int x9)] [] := by
  intro f
  induction f with
  | zero => intro a0 x1 x3 x4 x5 x6 x7 x8 x9 σ hw; exact hw.elim
  | succ f ih =>
    intro a0 x1 x3 x4 x5 x6 x7 x8 x9 σ hw
    unfold w_X12_holdsFor_70 at hw
    refine v_iload X 8 rfl (gD D_X12_holdsFor_0 43 rfl) ?_
    refine v_bipush X 36 (gD D_X12_holdsFor_0 44 rfl) (by decide) ?_
    refine v_icmp_ge X 219 (gD D_X12_holdsFor_0 45 rfl) (by decide) (fun c68 => ?_) (fun c68 => ?_)
    · replace hw := hw.1 c68
      exact v_sub [0] [0, 1, 2, 3, 4, 5, 6] rfl rfl (t_X12_holdsFor_219 X hr hin htr hK33 a0 x1 x3 x4 x5 x6 x7 σ hw)
    · replace hw := hw.2 c68
      refine v_iload X 7 rfl (gD D_X12_holdsFor_0 46 rfl) ?_
      refine v_if_eq X 219 (gD D_X12_holdsFor_0 47 rfl) (by decide) (fun c71 => ?_) (fun c71 => ?_)
      · replace hw := hw.1 c71
        exact v_sub [0] [0, 1, 2, 3, 4, 5, 6] rfl rfl (t_X12_holdsFor_219 X hr hin htr hK33 a0 x1 x3 x4 x5 x6 x7 σ hw)
      · replace hw := hw.2 c71
        refine v_iload X 8 rfl (gD D_X12_holdsFor_0 48 rfl) ?_
        refine v_bipush X 18 (gD D_X12_holdsFor_0 49 rfl) (by decide) ?_
        refine v_irem X (gD D_X12_holdsFor_0 50 rfl) (by decide) ?_
        refine v_topi (fun x72 ex72 => ?_)
        replace hw := hw x72 ex72
        refine v_istore X [(10, .int x72), (0, va_rf (some a0)), (1, .int x1), (3, .int x3), (4, .int x4), (5, .int x5), (6, .int x6), (7, .int x7), (8, .int x8), (9, .int x9)] (gD D_X12_holdsFor_0 51 rfl) (by decide) rfl ?_
        refine v_iload X 9 rfl (gD D_X12_holdsFor_0 52 rfl) ?_
        refine v_bipush X 18 (gD D_X12_holdsFor_0 53 rfl) (by decide) ?_
        refine v_icmp_ge X 100 (gD D_X12_holdsFor_0 54 rfl) (by decide) (fun c73 => ?_) (fun c73 => ?_)
        · replace hw := hw.1 c73
          refine v_iconst X 0 (gD D_X12_holdsFor_0 57 rfl) (by decide) ?_
          exact v_sub [0] [1, 2, 3, 4, 5, 6, 7, 8, 9, 0] rfl rfl (t_X12_holdsFor_101 X hr hin htr hK33 ih a0 x1 x3 x4 x5 x6 x7 x8 x9 x72 0 σ hw)
        · replace hw := hw.2 c73
          refine v_iconst X 1 (gD D_X12_holdsFor_0 55 rfl) (by decide) ?_
          refine v_goto X 101 (gD D_X12_holdsFor_0 56 rfl) (by decide) ?_
          exact v_sub [0] [1, 2, 3, 4, 5, 6, 7, 8, 9, 0] rfl rfl (t_X12_holdsFor_101 X hr hin htr hK33 ih a0 x1 x3 x4 x5 x6 x7 x8 x9 x72 1 σ hw)
set_option maxRecDepth 100000 in
set_option maxHeartbeats 4000000 in
theorem t_X12_holdsFor_33 {p : Program} {l : Launch} {e : Env} {s : State} {m : MethodId} {args : Array Value} {below : List Frame} {meth : Method} {c : Code} {G : GX} {σ0 : St} {mc ms : Nat} {Q : Int32 → St → Prop} (X : VC p l (rmD 3 mc ms) s m args meth c G 3 mc ms 12 RX12 cX12_holdsFor) (hr : meth.sig.returnType = (some .int)) (hin : meth.name = yX12_holdsFor.name) (htr : l.stackTraces = false) : ∀ (f : Nat) (a0 : Nat) (x1 : Int32) (x3 : Int32) (x4 : Int32) (x5 : Int32) (x6 : Int32) (x7 : Int32) (σ : St), w_X12_holdsFor_33 Q  f a0 x1 x3 x4 x5 x6 x7 σ → V p l e (rmD 3 mc ms) s m args below meth c (MQ below (va_Qi Q (gB G 2 σ0) (GA G)) args s mc ms (GA G)) G 2 σ0 mc ms 12 σ 0 0 [(some a0, 13)] 33 [(0, va_rf (some a0)), (1, .int x1), (3, .int x3), (4, .int x4), (5, .int x5), (6, .int x6), (7, .int x7)] [] := by
  intro f
  induction f with
  | zero => intro a0 x1 x3 x4 x5 x6 x7 σ hw; exact hw.elim
  | succ f ih =>
    intro a0 x1 x3 x4 x5 x6 x7 σ hw
    unfold w_X12_holdsFor_33 at hw
    refine v_iload X 6 rfl (gD D_X12_holdsFor_0 22 rfl) ?_
    refine v_iconst X (-1) (gD D_X12_holdsFor_0 23 rfl) (by decide) ?_
    refine v_icmp_eq X 232 (gD D_X12_holdsFor_0 24 rfl) (by decide) (fun c60 => ?_) (fun c60 => ?_)
    · replace hw := hw.1 c60
      refine v_iload X 5 rfl (gD D_X12_holdsFor_1 27 rfl) ?_
      exact v_iret X hr hw (gD D_X12_holdsFor_1 28 rfl)
    · replace hw := hw.2 c60
      refine v_aload_n X 0 rfl (gD D_X12_holdsFor_0 25 rfl) rfl ?_
      refine v_getR X RX12 TX12 65 13 12 (by decide) rfl gin12 17 1217 RX12 (Or.inl rfl) 0 21 rfl rfl rfl (by decide) lk_fRX12_47 (gD D_X12_holdsFor_0 26 rfl) (fun o61 eo61 => ?_)
      replace hw := hw o61 eo61
      refine v_iload X 6 rfl (gD D_X12_holdsFor_0 27 rfl) ?_
      obtain ⟨a62, rfl, hw⟩ := hw
      obtain ⟨h63, hw⟩ := hw
      refine v_iald X 0 rfl (by decide) h63 (gD D_X12_holdsFor_0 28 rfl) ?_
      refine v_aload_n X 0 rfl (gD D_X12_holdsFor_0 29 rfl) rfl ?_
      refine v_getI X RX12 TX12 65 13 12 (by decide) rfl gin12 1 1201 RX12 (Or.inl rfl) 1 rfl rfl (by decide) lk_fRX12_293 (gD D_X12_holdsFor_0 30 rfl) ?_
      refine v_aload_n X 0 rfl (gD D_X12_holdsFor_0 31 rfl) rfl ?_
      refine v_getR X RX12 TX12 65 13 12 (by decide) rfl gin12 30 1230 RX12 (Or.inl rfl) 1 21 rfl rfl rfl (by decide) lk_fRX12_80 (gD D_X12_holdsFor_0 32 rfl) (fun o64 eo64 => ?_)
      replace hw := hw o64 eo64
      refine v_iload_n X 1 rfl (gD D_X12_holdsFor_0 33 rfl) rfl ?_
      obtain ⟨a65, rfl, hw⟩ := hw
      obtain ⟨h66, hw⟩ := hw
      refine v_iald X 0 rfl (by decide) h66 (gD D_X12_holdsFor_0 34 rfl) ?_
      refine v_iadd X (gD D_X12_holdsFor_0 35 rfl) ?_
      refine v_icmp_lt X 64 (gD D_X12_holdsFor_0 36 rfl) (by decide) (fun c67 => ?_) (fun c67 => ?_)
      · replace hw := hw.1 c67
        refine v_iconst X 0 (gD D_X12_holdsFor_0 39 rfl) (by decide) ?_
        refine v_istore X [(8, .int 0), (0, va_rf (some a0)), (1, .int x1), (3, .int x3), (4, .int x4), (5, .int x5), (6, .int x6), (7, .int x7)] (gD D_X12_holdsFor_0 40 rfl) (by decide) rfl ?_
        refine v_iconst X 0 (gD D_X12_holdsFor_0 41 rfl) (by decide) ?_
        refine v_istore X [(9, .int 0), (8, .int 0), (0, va_rf (some a0)), (1, .int x1), (3, .int x3), (4, .int x4), (5, .int x5), (6, .int x6), (7, .int x7)] (gD D_X12_holdsFor_0 42 rfl) (by decide) rfl ?_
        obtain ⟨f106, hw⟩ := hw
        exact v_sub [2] [2, 3, 4, 5, 6, 7, 8, 1, 0] rfl rfl (t_X12_holdsFor_70 X hr hin htr ih f106 a0 x1 x3 x4 x5 x6 x7 0 0 σ hw)
      · replace hw := hw.2 c67
        refine v_iconst X 1 (gD D_X12_holdsFor_0 37 rfl) (by decide) ?_
        refine v_goto X 65 (gD D_X12_holdsFor_0 38 rfl) (by decide) ?_
        refine v_istore X [(8, .int 1), (0, va_rf (some a0)), (1, .int x1), (3, .int x3), (4, .int x4), (5, .int x5), (6, .int x6), (7, .int x7)] (gD D_X12_holdsFor_0 40 rfl) (by decide) rfl ?_
        refine v_iconst X 0 (gD D_X12_holdsFor_0 41 rfl) (by decide) ?_
        refine v_istore X [(9, .int 0), (8, .int 1), (0, va_rf (some a0)), (1, .int x1), (3, .int x3), (4, .int x4), (5, .int x5), (6, .int x6), (7, .int x7)] (gD D_X12_holdsFor_0 42 rfl) (by decide) rfl ?_
        obtain ⟨f107, hw⟩ := hw
        exact v_sub [2] [2, 3, 4, 5, 6, 7, 8, 1, 0] rfl rfl (t_X12_holdsFor_70 X hr hin htr ih f107 a0 x1 x3 x4 x5 x6 x7 1 0 σ hw)
set_option maxRecDepth 100000 in
set_option maxHeartbeats 4000000 in
theorem c_X12_holdsFor {l : Launch} {G : GX} (htr : l.stackTraces = false) {σ : St} {a0 : Nat} {x1 : Int32} {x2 : Int32} {Q : Int32 → St → Prop} (ht : tvOk σ [(some a0, 13)]) (hw : w_X12_holdsFor a0 x1 x2 σ Q) : MI l G 2 σ yX12_holdsFor cX12_holdsFor 12 (some .int) 3 0 0 [va_rf (some a0), .int x1, .int x2] Q := by
  unfold w_X12_holdsFor at hw
  refine m_start RX12 (by decide) htr ht (Nat.le_of_ble_eq_true rfl) rfl (lv := [(0, va_rf (some a0)), (1, .int x1), (2, .int x2)]) (d := 2) (fun p e s m args below meth c X hr hin => ?_)
  refine v_iconst X 3 (gD D_X12_holdsFor_0 0 rfl) (by decide) ?_
  refine v_iload_n X 1 rfl (gD D_X12_holdsFor_0 1 rfl) rfl ?_
  refine v_imul X (gD D_X12_holdsFor_0 2 rfl) ?_
  refine v_iload_n X 2 rfl (gD D_X12_holdsFor_0 3 rfl) rfl ?_
  refine v_iadd X (gD D_X12_holdsFor_0 4 rfl) ?_
  refine v_topi (fun x51 ex51 => ?_)
  replace hw := hw x51 ex51
  refine v_istore_n X [(3, .int x51), (0, va_rf (some a0)), (1, .int x1), (2, .int x2)] (gD D_X12_holdsFor_0 5 rfl) rfl (by decide) rfl ?_
  refine v_aload_n X 1 rfl (gD D_X12_holdsFor_0 6 rfl) rfl ?_
  refine v_getR X RX12 TX12 65 13 12 (by decide) rfl gin12 36 1236 RX12 (Or.inl rfl) 0 21 rfl rfl rfl (by decide) lk_fRX12_98 (gD D_X12_holdsFor_0 7 rfl) (fun o52 eo52 => ?_)
  replace hw := hw o52 eo52
  refine v_iload_n X 0 rfl (gD D_X12_holdsFor_0 8 rfl) rfl ?_
  obtain ⟨a53, rfl, hw⟩ := hw
  obtain ⟨h54, hw⟩ := hw
  refine v_iald X 0 rfl (by decide) h54 (gD D_X12_holdsFor_0 9 rfl) ?_
  refine v_topi (fun x55 ex55 => ?_)
  replace hw := hw x55 ex55
  refine v_istore X [(4, .int x55), (3, .int x51), (0, va_rf (some a0)), (1, .int x1), (2, .int x2)] (gD D_X12_holdsFor_0 10 rfl) (by decide) rfl ?_
  refine v_aload_n X 2 rfl (gD D_X12_holdsFor_0 11 rfl) rfl ?_
  refine v_iload_n X 1 rfl (gD D_X12_holdsFor_0 12 rfl) rfl ?_
  refine v_callVi X (As := [.int x51]) (rest := []) (nA := 1) 0 0 0 0 (fun ht => c_X12_lacking htr (ht.sub [1] rfl) hw) (Or.inl rfl) 1 (κ := 13) rfl (by decide) (rfl : gCl[12]? = some (RX12, TX12, 65)) lk_vRX12_290 (by decide +kernel) rfl rfl (by decide) (by decide) (by decide) rfl rfl (gD D_X12_holdsFor_0 13 rfl) (fun x56 s57 hq _ _ => ?_)
  replace hw := hq
  clear hq
  refine v_istore X [(5, .int x56), (4, .int x55), (3, .int x51), (0, va_rf (some a0)), (1, .int x1), (2, .int x2)] (gD D_X12_holdsFor_0 14 rfl) (by decide) rfl ?_
  refine v_iconst X 0 (gD D_X12_holdsFor_0 15 rfl) (by decide) ?_
  refine v_istore X [(6, .int 0), (5, .int x56), (4, .int x55), (3, .int x51), (0, va_rf (some a0)), (1, .int x1), (2, .int x2)] (gD D_X12_holdsFor_0 16 rfl) (by decide) rfl ?_
  refine v_aload_n X 4 rfl (gD D_X12_holdsFor_0 17 rfl) rfl ?_
  refine v_iload X 2 rfl (gD D_X12_holdsFor_0 18 rfl) ?_
  refine v_iconst X (-1) (gD D_X12_holdsFor_0 19 rfl) (by decide) ?_
  refine v_callVi X (As := [.int x55, .int (-1)]) (rest := []) (nA := 2) 0 0 0 0 (fun ht => c_X12_nextLot htr (ht.sub [1] rfl) hw) (Or.inl rfl) 1 (κ := 13) rfl (by decide) (rfl : gCl[12]? = some (RX12, TX12, 65)) lk_vRX12_278 (by decide +kernel) rfl rfl (by decide) (by decide) (by decide) rfl rfl (gD D_X12_holdsFor_0 20 rfl) (fun x58 s59 hq _ _ => ?_)
  replace hw := hq
  clear hq
  refine v_istore X [(7, .int x58), (6, .int 0), (5, .int x56), (4, .int x55), (3, .int x51), (0, va_rf (some a0)), (1, .int x1), (2, .int x2)] (gD D_X12_holdsFor_0 21 rfl) (by decide) rfl ?_
  obtain ⟨f108, hw⟩ := hw
  exact v_sub [1] [5, 6, 4, 3, 2, 1, 0] rfl rfl (t_X12_holdsFor_33 X hr hin htr  f108 a0 x1 x51 x55 x56 0 x58 s59 hw)
set_option maxRecDepth 100000 in
set_option maxHeartbeats 4000000 in
theorem t_X12_isBarredAt_52 {p : Program} {l : Launch} {e : Env} {s : State} {m : MethodId} {args : Array Value} {below : List Frame} {meth : Method} {c : Code} {G : GX} {σ0 : St} {mc ms : Nat} {Q : Int32 → St → Prop} (X : VC p l (rmD 3 mc ms) s m args meth c G 3 mc ms 5 RX12 cX12_isBarredAt) (hr : meth.sig.returnType = (some .boolean)) (hin : meth.name = yX12_isBarredAt.name) (htr : l.stackTraces = false) : ∀ (a0 : Nat) (x1 : Int32) (x2 : Int32) (x4 : Int32) (σ : St), w_X12_isBarredAt_52 Q  a0 x1 x2 x4 σ → V p l e (rmD 3 mc ms) s m args below meth c (MQ below (va_Qi Q (gB G 2 σ0) (GA G)) args s mc ms (GA G)) G 2 σ0 mc ms 5 σ 0 0 [(some a0, 13)] 52 [(0, va_rf (some a0)), (1, .int x1), (2, .int x2), (4, .int x4)] [] := by
  intro a0 x1 x2 x4 σ hw
  unfold w_X12_isBarredAt_52 at hw
  refine v_iload X 3 rfl (gD D_X12_isBarredAt_0 31 rfl) ?_
  refine v_if_eq X 72 (gD D_X12_isBarredAt_0 32 rfl) (by decide) (fun c57 => ?_) (fun c57 => ?_)
  · replace hw := hw.1 c57
    refine v_iconst X 0 (gD D_X12_isBarredAt_0 42 rfl) (by decide) ?_
    exact v_zret X hr (by decide) hw (gD D_X12_isBarredAt_0 43 rfl)
  · replace hw := hw.2 c57
    refine v_aload_n X 0 rfl (gD D_X12_isBarredAt_0 33 rfl) rfl ?_
    refine v_iload_n X 1 rfl (gD D_X12_isBarredAt_0 34 rfl) rfl ?_
    refine v_iconst X 1 (gD D_X12_isBarredAt_0 35 rfl) (by decide) ?_
    refine v_iadd X (gD D_X12_isBarredAt_0 36 rfl) ?_
    refine v_iload_n X 2 rfl (gD D_X12_isBarredAt_0 37 rfl) rfl ?_
    refine v_callVi X (As := [.int (x1 + 1), .int x2]) (rest := []) (nA := 2) 0 0 0 0 (fun ht => c_X12_isBarredIn htr (ht.sub [0] rfl) hw) (Or.inl rfl) 0 (κ := 13) rfl (by decide) (rfl : gCl[12]? = some (RX12, TX12, 65)) lk_vRX12_265 (by decide +kernel) rfl rfl (by decide) (by decide) (by decide) rfl rfl (gD D_X12_isBarredAt_0 38 rfl) (fun x58 s59 hq _ _ => ?_)
    replace hw := hq
    clear hq
    refine v_if_eq X 72 (gD D_X12_isBarredAt_0 39 rfl) (by decide) (fun c60 => ?_) (fun c60 => ?_)
    · replace hw := hw.1 c60
      refine v_iconst X 0 (gD D_X12_isBarredAt_0 42 rfl) (by decide) ?_
      exact v_zret X hr (by decide) hw (gD D_X12_isBarredAt_0 43 rfl)
    · replace hw := hw.2 c60
      refine v_iconst X 1 (gD D_X12_isBarredAt_0 40 rfl) (by decide) ?_
      refine v_goto X 73 (gD D_X12_isBarredAt_0 41 rfl) (by decide) ?_
      exact v_zret X hr (by decide) hw (gD D_X12_isBarredAt_0 43 rfl)
set_option maxRecDepth 100000 in
set_option maxHeartbeats 4000000 in
theorem t_X12_isBarredAt_26 {p : Program} {l : Launch} {e : Env} {s : State} {m : MethodId} {args : Array Value} {below : List Frame} {meth : Method} {c : Code} {G : GX} {σ0 : St} {mc ms : Nat} {Q : Int32 → St → Prop} (X : VC p l (rmD 3 mc ms) s m args meth c G 3 mc ms 5 RX12 cX12_isBarredAt) (hr : meth.sig.returnType = (some .boolean)) (hin : meth.name = yX12_isBarredAt.name) (htr : l.stackTraces = false) : ∀ (a0 : Nat) (x1 : Int32) (x2 : Int32) (x3 : Int32) (xs0 : Int32) (σ : St), w_X12_isBarredAt_26 Q  a0 x1 x2 x3 xs0 σ → V p l e (rmD 3 mc ms) s m args below meth c (MQ below (va_Qi Q (gB G 2 σ0) (GA G)) args s mc ms (GA G)) G 2 σ0 mc ms 5 σ 0 0 [(some a0, 13)] 26 [(0, va_rf (some a0)), (1, .int x1), (2, .int x2), (3, .int x3)] [.int xs0] := by
  intro a0 x1 x2 x3 xs0 σ hw
  unfold w_X12_isBarredAt_26 at hw
  refine v_istore X [(4, .int xs0), (0, va_rf (some a0)), (1, .int x1), (2, .int x2), (3, .int x3)] (gD D_X12_isBarredAt_0 16 rfl) (by decide) rfl ?_
  refine v_aload_n X 1 rfl (gD D_X12_isBarredAt_0 17 rfl) rfl ?_
  refine v_iload_n X 2 rfl (gD D_X12_isBarredAt_0 18 rfl) rfl ?_
  refine v_iload_n X 3 rfl (gD D_X12_isBarredAt_0 19 rfl) rfl ?_
  refine v_callVi X (As := [.int x1, .int x2]) (rest := []) (nA := 2) 0 0 0 0 (fun ht => c_X12_isBarredIn htr (ht.sub [0] rfl) hw) (Or.inl rfl) 0 (κ := 13) rfl (by decide) (rfl : gCl[12]? = some (RX12, TX12, 65)) lk_vRX12_265 (by decide +kernel) rfl rfl (by decide) (by decide) (by decide) rfl rfl (gD D_X12_isBarredAt_0 20 rfl) (fun x53 s54 hq _ _ => ?_)
  replace hw := hq
  clear hq
  refine v_if_ne X 68 (gD D_X12_isBarredAt_0 21 rfl) (by decide) (fun c55 => ?_) (fun c55 => ?_)
  · replace hw := hw.1 c55
    refine v_iconst X 1 (gD D_X12_isBarredAt_0 40 rfl) (by decide) ?_
    refine v_goto X 73 (gD D_X12_isBarredAt_0 41 rfl) (by decide) ?_
    exact v_zret X hr (by decide) hw (gD D_X12_isBarredAt_0 43 rfl)
  · replace hw := hw.2 c55
    refine v_iload_n X 4 rfl (gD D_X12_isBarredAt_0 22 rfl) rfl ?_
    refine v_if_eq X 52 (gD D_X12_isBarredAt_0 23 rfl) (by decide) (fun c56 => ?_) (fun c56 => ?_)
    · replace hw := hw.1 c56
      exact v_sub [0] [1, 2, 3, 0] rfl rfl (t_X12_isBarredAt_52 X hr hin htr  a0 x1 x2 xs0 s54 hw)
    · replace hw := hw.2 c56
      refine v_aload_n X 1 rfl (gD D_X12_isBarredAt_0 24 rfl) rfl ?_
      refine v_iload_n X 2 rfl (gD D_X12_isBarredAt_0 25 rfl) rfl ?_
      refine v_iconst X 1 (gD D_X12_isBarredAt_0 26 rfl) (by decide) ?_
      refine v_isub X (gD D_X12_isBarredAt_0 27 rfl) ?_
      refine v_iload_n X 3 rfl (gD D_X12_isBarredAt_0 28 rfl) rfl ?_
      refine v_callVi X (As := [.int (x1 - 1), .int x2]) (rest := []) (nA := 2) 0 0 0 0 (fun ht => c_X12_isBarredIn htr (ht.sub [0] rfl) hw) (Or.inl rfl) 0 (κ := 13) rfl (by decide) (rfl : gCl[12]? = some (RX12, TX12, 65)) lk_vRX12_265 (by decide +kernel) rfl rfl (by decide) (by decide) (by decide) rfl rfl (gD D_X12_isBarredAt_0 29 rfl) (fun x61 s62 hq _ _ => ?_)
      replace hw := hq
      clear hq
      refine v_if_ne X 68 (gD D_X12_isBarredAt_0 30 rfl) (by decide) (fun c63 => ?_) (fun c63 => ?_)
      · replace hw := hw.1 c63
        refine v_iconst X 1 (gD D_X12_isBarredAt_0 40 rfl) (by decide) ?_
        refine v_goto X 73 (gD D_X12_isBarredAt_0 41 rfl) (by decide) ?_
        exact v_zret X hr (by decide) hw (gD D_X12_isBarredAt_0 43 rfl)
      · replace hw := hw.2 c63
        exact v_sub [0] [1, 2, 3, 0] rfl rfl (t_X12_isBarredAt_52 X hr hin htr  a0 x1 x2 xs0 s62 hw)
set_option maxRecDepth 100000 in
set_option maxHeartbeats 4000000 in
theorem t_X12_isBarredAt_12 {p : Program} {l : Launch} {e : Env} {s : State} {m : MethodId} {args : Array Value} {below : List Frame} {meth : Method} {c : Code} {G : GX} {σ0 : St} {mc ms : Nat} {Q : Int32 → St → Prop} (X : VC p l (rmD 3 mc ms) s m args meth c G 3 mc ms 5 RX12 cX12_isBarredAt) (hr : meth.sig.returnType = (some .boolean)) (hin : meth.name = yX12_isBarredAt.name) (htr : l.stackTraces = false) : ∀ (a0 : Nat) (x1 : Int32) (x2 : Int32) (xs0 : Int32) (σ : St), w_X12_isBarredAt_12 Q  a0 x1 x2 xs0 σ → V p l e (rmD 3 mc ms) s m args below meth c (MQ below (va_Qi Q (gB G 2 σ0) (GA G)) args s mc ms (GA G)) G 2 σ0 mc ms 5 σ 0 0 [(some a0, 13)] 12 [(0, va_rf (some a0)), (1, .int x1), (2, .int x2)] [.int xs0] := by
  intro a0 x1 x2 xs0 σ hw
  unfold w_X12_isBarredAt_12 at hw
  refine v_istore_n X [(3, .int xs0), (0, va_rf (some a0)), (1, .int x1), (2, .int x2)] (gD D_X12_isBarredAt_0 7 rfl) rfl (by decide) rfl ?_
  refine v_iload_n X 2 rfl (gD D_X12_isBarredAt_0 8 rfl) rfl ?_
  refine v_bipush X 6 (gD D_X12_isBarredAt_0 9 rfl) (by decide) ?_
  refine v_irem X (gD D_X12_isBarredAt_0 10 rfl) (by decide) ?_
  refine v_iconst X 5 (gD D_X12_isBarredAt_0 11 rfl) (by decide) ?_
  refine v_icmp_ge X 25 (gD D_X12_isBarredAt_0 12 rfl) (by decide) (fun c52 => ?_) (fun c52 => ?_)
  · replace hw := hw.1 c52
    refine v_iconst X 0 (gD D_X12_isBarredAt_0 15 rfl) (by decide) ?_
    exact v_sub [0] [1, 2, 3, 0] rfl rfl (t_X12_isBarredAt_26 X hr hin htr  a0 x1 x2 xs0 0 σ hw)
  · replace hw := hw.2 c52
    refine v_iconst X 1 (gD D_X12_isBarredAt_0 13 rfl) (by decide) ?_
    refine v_goto X 26 (gD D_X12_isBarredAt_0 14 rfl) (by decide) ?_
    exact v_sub [0] [1, 2, 3, 0] rfl rfl (t_X12_isBarredAt_26 X hr hin htr  a0 x1 x2 xs0 1 σ hw)
set_option maxRecDepth 100000 in
set_option maxHeartbeats 4000000 in
theorem c_X12_isBarredAt {l : Launch} {G : GX} (htr : l.stackTraces = false) {σ : St} {a0 : Nat} {x1 : Int32} {x2 : Int32} {Q : Int32 → St → Prop} (ht : tvOk σ [(some a0, 13)]) (hw : w_X12_isBarredAt a0 x1 x2 σ Q) : MI l G 2 σ yX12_isBarredAt cX12_isBarredAt 5 (some .boolean) 3 0 0 [va_rf (some a0), .int x1, .int x2] Q := by
  unfold w_X12_isBarredAt at hw
  refine m_start RX12 (by decide) htr ht (Nat.le_of_ble_eq_true rfl) rfl (lv := [(0, va_rf (some a0)), (1, .int x1), (2, .int x2)]) (d := 2) (fun p e s m args below meth c X hr hin => ?_)
  refine v_iload_n X 1 rfl (gD D_X12_isBarredAt_0 0 rfl) rfl ?_
  refine v_bipush X 6 (gD D_X12_isBarredAt_0 1 rfl) (by decide) ?_
  refine v_irem X (gD D_X12_isBarredAt_0 2 rfl) (by decide) ?_
  refine v_if_le X 11 (gD D_X12_isBarredAt_0 3 rfl) (by decide) (fun c51 => ?_) (fun c51 => ?_)
  · replace hw := hw.1 c51
    refine v_iconst X 0 (gD D_X12_isBarredAt_0 6 rfl) (by decide) ?_
    exact v_sub [0] [0, 1, 2] rfl rfl (t_X12_isBarredAt_12 X hr hin htr  a0 x1 x2 0 σ hw)
  · replace hw := hw.2 c51
    refine v_iconst X 1 (gD D_X12_isBarredAt_0 4 rfl) (by decide) ?_
    refine v_goto X 12 (gD D_X12_isBarredAt_0 5 rfl) (by decide) ?_
    exact v_sub [0] [0, 1, 2] rfl rfl (t_X12_isBarredAt_12 X hr hin htr  a0 x1 x2 1 σ hw)
set_option maxRecDepth 100000 in
set_option maxHeartbeats 4000000 in
theorem t_X12_refills_225 {p : Program} {l : Launch} {e : Env} {s : State} {m : MethodId} {args : Array Value} {below : List Frame} {meth : Method} {c : Code} {G : GX} {σ0 : St} {mc ms : Nat} {Q : Int32 → St → Prop} (X : VC p l (rmD 3 mc ms) s m args meth c G 3 mc ms 9 RX12 cX12_refills) (hr : meth.sig.returnType = (some .boolean)) (hin : meth.name = yX12_refills.name) (htr : l.stackTraces = false) : ∀ (x7 : Int32) (σ : St), w_X12_refills_225 Q  x7 σ → V p l e (rmD 3 mc ms) s m args below meth c (MQ below (va_Qi Q (gB G 2 σ0) (GA G)) args s mc ms (GA G)) G 2 σ0 mc ms 9 σ 0 0 [] 225 [(7, .int x7)] [] := by
  intro x7 σ hw
  unfold w_X12_refills_225 at hw
  refine v_iload X 0 rfl (gD D_X12_refills_1 25 rfl) ?_
  refine v_if_le X 234 (gD D_X12_refills_1 26 rfl) (by decide) (fun c93 => ?_) (fun c93 => ?_)
  · replace hw := hw.1 c93
    refine v_iconst X 0 (gD D_X12_refills_1 29 rfl) (by decide) ?_
    exact v_zret X hr (by decide) hw (gD D_X12_refills_1 30 rfl)
  · replace hw := hw.2 c93
    refine v_iconst X 1 (gD D_X12_refills_1 27 rfl) (by decide) ?_
    refine v_goto X 235 (gD D_X12_refills_1 28 rfl) (by decide) ?_
    exact v_zret X hr (by decide) hw (gD D_X12_refills_1 30 rfl)
set_option maxRecDepth 100000 in
set_option maxHeartbeats 4000000 in
theorem t_X12_refills_203 {p : Program} {l : Launch} {e : Env} {s : State} {m : MethodId} {args : Array Value} {below : List Frame} {meth : Method} {c : Code} {G : GX} {σ0 : St} {mc ms : Nat} {Q : Int32 → St → Prop} (X : VC p l (rmD 3 mc ms) s m args meth c G 3 mc ms 9 RX12 cX12_refills) (hr : meth.sig.returnType = (some .boolean)) (hin : meth.name = yX12_refills.name) (htr : l.stackTraces = false) : ∀ (a0 : Nat) (x1 : Int32) (x4 : Int32) (x5 : Int32) (xs0 : Int32) (σ : St), w_X12_refills_203 Q  a0 x1 x4 x5 xs0 σ → V p l e (rmD 3 mc ms) s m args below meth c (MQ below (va_Qi Q (gB G 2 σ0) (GA G)) args s mc ms (GA G)) G 2 σ0 mc ms 9 σ 0 0 [(some a0, 13)] 203 [(0, va_rf (some a0)), (1, .int x1), (4, .int x4), (5, .int x5)] [.int xs0] := by
  intro a0 x1 x4 x5 xs0 σ hw
  unfold w_X12_refills_203 at hw
  refine v_istore X [(7, .int xs0), (0, va_rf (some a0)), (1, .int x1), (4, .int x4), (5, .int x5)] (gD D_X12_refills_1 13 rfl) (by decide) rfl ?_
  refine v_iload X 0 rfl (gD D_X12_refills_1 14 rfl) ?_
  refine v_if_le X 225 (gD D_X12_refills_1 15 rfl) (by decide) (fun c92 => ?_) (fun c92 => ?_)
  · replace hw := hw.1 c92
    exact v_sub [] [0] rfl rfl (t_X12_refills_225 X hr hin htr  xs0 σ hw)
  · replace hw := hw.2 c92
    refine v_aload_n X 1 rfl (gD D_X12_refills_1 16 rfl) rfl ?_
    refine v_iconst X 1 (gD D_X12_refills_1 17 rfl) (by decide) ?_
    refine v_iload X 3 rfl (gD D_X12_refills_1 18 rfl) ?_
    refine v_iload X 4 rfl (gD D_X12_refills_1 19 rfl) ?_
    refine v_iload_n X 2 rfl (gD D_X12_refills_1 20 rfl) rfl ?_
    refine v_iconst X (-1) (gD D_X12_refills_1 21 rfl) (by decide) ?_
    refine v_iload X 0 rfl (gD D_X12_refills_1 22 rfl) ?_
    refine v_callVi X (As := [.int 1, .int x4, .int x5, .int x1, .int (-1), .int xs0]) (rest := []) (nA := 6) 0 0 0 0 (fun ht => c_X12_makes htr (ht.sub [0] rfl) hw) (Or.inl rfl) 0 (κ := 13) rfl (by decide) (rfl : gCl[12]? = some (RX12, TX12, 65)) lk_vRX12_274 (by decide +kernel) rfl rfl (by decide) (by decide) (by decide) rfl rfl (gD D_X12_refills_1 23 rfl) (fun x94 s95 hq _ _ => ?_)
    replace hw := hq
    clear hq
    refine v_istore X [(8, .int x94), (7, .int xs0), (0, va_rf (some a0)), (1, .int x1), (4, .int x4), (5, .int x5)] (gD D_X12_refills_1 24 rfl) (by decide) rfl ?_
    exact v_sub [] [1] rfl rfl (t_X12_refills_225 X hr hin htr  xs0 s95 hw)
set_option maxRecDepth 100000 in
set_option maxHeartbeats 4000000 in
theorem t_X12_refills_145 {p : Program} {l : Launch} {e : Env} {s : State} {m : MethodId} {args : Array Value} {below : List Frame} {meth : Method} {c : Code} {G : GX} {σ0 : St} {mc ms : Nat} {Q : Int32 → St → Prop} (X : VC p l (rmD 3 mc ms) s m args meth c G 3 mc ms 9 RX12 cX12_refills) (hr : meth.sig.returnType = (some .boolean)) (hin : meth.name = yX12_refills.name) (htr : l.stackTraces = false) {K106 : Nat → Int32 → Int32 → Int32 → Int32 → St → Prop} (hK106 : ∀ (a0 : Nat) (x1 : Int32) (x2 : Int32) (x3 : Int32) (x4 : Int32) (σ : St), K106 a0 x1 x2 x3 x4 σ → V p l e (rmD 3 mc ms) s m args below meth c (MQ below (va_Qi Q (gB G 2 σ0) (GA G)) args s mc ms (GA G)) G 2 σ0 mc ms 9 σ 0 0 [(some a0, 13)] 106 [(0, va_rf (some a0)), (1, .int x1), (2, .int x2), (3, .int x3), (4, .int x4)] []) {K115 : Nat → Int32 → Int32 → Int32 → Int32 → Int32 → St → Prop} (hK115 : ∀ (a0 : Nat) (x1 : Int32) (x2 : Int32) (x3 : Int32) (x4 : Int32) (x5 : Int32) (σ : St), K115 a0 x1 x2 x3 x4 x5 σ → V p l e (rmD 3 mc ms) s m args below meth c (MQ below (va_Qi Q (gB G 2 σ0) (GA G)) args s mc ms (GA G)) G 2 σ0 mc ms 9 σ 0 0 [(some a0, 13)] 115 [(0, va_rf (some a0)), (1, .int x1), (2, .int x2), (3, .int x3), (4, .int x4), (5, .int x5)] []) : ∀ (a0 : Nat) (x1 : Int32) (x2 : Int32) (x3 : Int32) (x4 : Int32) (x5 : Int32) (xs0 : Int32) (σ : St), w_X12_refills_145 Q K106 K115 a0 x1 x2 x3 x4 x5 xs0 σ → V p l e (rmD 3 mc ms) s m args below meth c (MQ below (va_Qi Q (gB G 2 σ0) (GA G)) args s mc ms (GA G)) G 2 σ0 mc ms 9 σ 0 0 [(some a0, 13)] 145 [(0, va_rf (some a0)), (1, .int x1), (2, .int x2), (3, .int x3), (4, .int x4), (5, .int x5)] [.int xs0] := by
  intro a0 x1 x2 x3 x4 x5 xs0 σ hw
  unfold w_X12_refills_145 at hw
  refine v_istore X [(6, .int xs0), (0, va_rf (some a0)), (1, .int x1), (2, .int x2), (3, .int x3), (4, .int x4), (5, .int x5)] (gD D_X12_refills_0 80 rfl) (by decide) rfl ?_
  refine v_iload X 0 rfl (gD D_X12_refills_0 81 rfl) ?_
  refine v_if_le X 236 (gD D_X12_refills_0 82 rfl) (by decide) (fun c73 => ?_) (fun c73 => ?_)
  · replace hw := hw.1 c73
    refine v_iinc X (x5 + 1) 6 rfl [(5, .int (x5 + 1)), (6, .int xs0), (0, va_rf (some a0)), (1, .int x1), (2, .int x2), (3, .int x3), (4, .int x4)] (gD D_X12_refills_1 31 rfl) rfl (by decide) rfl ?_
    refine v_goto X 115 (gD D_X12_refills_1 32 rfl) (by decide) ?_
    exact v_sub [0] [2, 3, 4, 5, 6, 0] rfl rfl (hK115 a0 x1 x2 x3 x4 (x5 + 1) σ hw)
  · replace hw := hw.2 c73
    refine v_iload X 0 rfl (gD D_X12_refills_0 83 rfl) ?_
    refine v_aload_n X 1 rfl (gD D_X12_refills_0 84 rfl) rfl ?_
    refine v_getR X RX12 TX12 65 13 12 (by decide) rfl gin12 8 1208 RX12 (Or.inl rfl) 0 21 rfl rfl rfl (by decide) lk_fRX12_22 (gD D_X12_refills_0 85 rfl) (fun o74 eo74 => ?_)
    replace hw := hw o74 eo74
    refine v_iload_n X 2 rfl (gD D_X12_refills_0 86 rfl) rfl ?_
    obtain ⟨a75, rfl, hw⟩ := hw
    obtain ⟨h76, hw⟩ := hw
    refine v_iald X 0 rfl (by decide) h76 (gD D_X12_refills_0 87 rfl) ?_
    refine v_iload_n X 4 rfl (gD D_X12_refills_0 88 rfl) rfl ?_
    refine v_isub X (gD D_X12_refills_0 89 rfl) ?_
    refine v_callSi X (As := [.int xs0, .int ((sA σ a75 x1.toNatClampNeg) - x3)]) (rest := []) (nA := 2) 0 0 0 0 (fun ht => c_X12_less htr (ht.sub [] rfl) hw) (Or.inl rfl) lk_sRX12_281 (by decide +kernel) rfl rfl (by decide) (by decide) (by decide) rfl rfl (gD D_X12_refills_0 90 rfl) (fun x77 s78 hq _ _ => ?_)
    replace hw := hq
    clear hq
    refine v_aload_n X 1 rfl (gD D_X12_refills_0 91 rfl) rfl ?_
    refine v_iload_n X 2 rfl (gD D_X12_refills_0 92 rfl) rfl ?_
    refine v_callVi X (As := [.int x1]) (rest := [.int x77]) (nA := 1) 0 0 0 0 (fun ht => c_X12_roomLeft htr (ht.sub [1] rfl) hw) (Or.inl rfl) 1 (κ := 13) rfl (by decide) (rfl : gCl[12]? = some (RX12, TX12, 65)) lk_vRX12_241 (by decide +kernel) rfl rfl (by simp [rf_cat, ct_i]) (by decide) (by decide) rfl rfl (gD D_X12_refills_0 93 rfl) (fun x79 s80 hq _ _ => ?_)
    replace hw := hq
    clear hq
    refine v_aload_n X 1 rfl (gD D_X12_refills_0 94 rfl) rfl ?_
    refine v_getR X RX12 TX12 65 13 12 (by decide) rfl gin12 10 1210 RX12 (Or.inl rfl) 1 21 rfl rfl rfl (by decide) lk_fRX12_28 (gD D_X12_refills_0 95 rfl) (fun o81 eo81 => ?_)
    replace hw := hw o81 eo81
    refine v_iload_n X 3 rfl (gD D_X12_refills_0 96 rfl) rfl ?_
    obtain ⟨a82, rfl, hw⟩ := hw
    obtain ⟨h83, hw⟩ := hw
    refine v_iald X 0 rfl (by decide) h83 (gD D_X12_refills_0 97 rfl) ?_
    obtain ⟨h84, hw⟩ := hw
    refine v_idiv X (gD D_X12_refills_0 98 rfl) h84 ?_
    refine v_callSi X (As := [.int x77, .int (x79 / (sA s80 a82 x2.toNatClampNeg))]) (rest := []) (nA := 2) 0 0 0 0 (fun ht => c_X12_less htr (ht.sub [] rfl) hw) (Or.inl rfl) lk_sRX12_281 (by decide +kernel) rfl rfl (by decide) (by decide) (by decide) rfl rfl (gD D_X12_refills_0 99 rfl) (fun x85 s86 hq _ _ => ?_)
    replace hw := hq
    clear hq
    refine v_istore X [(7, .int x85), (6, .int xs0), (0, va_rf (some a0)), (1, .int x1), (2, .int x2), (3, .int x3), (4, .int x4), (5, .int x5)] (gD D_X12_refills_1 0 rfl) (by decide) rfl ?_
    refine v_iload X 0 rfl (gD D_X12_refills_1 1 rfl) ?_
    refine v_if_ge X 191 (gD D_X12_refills_1 2 rfl) (by decide) (fun c87 => ?_) (fun c87 => ?_)
    · replace hw := hw.1 c87
      refine v_iload X 0 rfl (gD D_X12_refills_1 5 rfl) ?_
      refine v_iload X 0 rfl (gD D_X12_refills_1 6 rfl) ?_
      refine v_aload_n X 2 rfl (gD D_X12_refills_1 7 rfl) rfl ?_
      refine v_getR X RX12 TX12 65 13 12 (by decide) rfl gin12 13 1213 RX12 (Or.inl rfl) 2 21 rfl rfl rfl (by decide) lk_fRX12_37 (gD D_X12_refills_1 8 rfl) (fun o88 eo88 => ?_)
      replace hw := hw o88 eo88
      refine v_iload_n X 4 rfl (gD D_X12_refills_1 9 rfl) rfl ?_
      obtain ⟨a89, rfl, hw⟩ := hw
      obtain ⟨h90, hw⟩ := hw
      refine v_iald X 0 rfl (by decide) h90 (gD D_X12_refills_1 10 rfl) ?_
      obtain ⟨h91, hw⟩ := hw
      refine v_irem X (gD D_X12_refills_1 11 rfl) h91 ?_
      refine v_isub X (gD D_X12_refills_1 12 rfl) ?_
      exact v_sub [3] [2, 3, 6, 7] rfl rfl (t_X12_refills_203 X hr hin htr  a0 x1 x4 x5 (x85 - (x85 - x85 / (sA s86 a89 x2.toNatClampNeg) * (sA s86 a89 x2.toNatClampNeg))) s86 hw)
    · replace hw := hw.2 c87
      refine v_iconst X 0 (gD D_X12_refills_1 3 rfl) (by decide) ?_
      refine v_goto X 203 (gD D_X12_refills_1 4 rfl) (by decide) ?_
      exact v_sub [2] [2, 3, 6, 7] rfl rfl (t_X12_refills_203 X hr hin htr  a0 x1 x4 x5 0 s86 hw)
set_option maxRecDepth 100000 in
set_option maxHeartbeats 4000000 in
theorem t_X12_refills_115 {p : Program} {l : Launch} {e : Env} {s : State} {m : MethodId} {args : Array Value} {below : List Frame} {meth : Method} {c : Code} {G : GX} {σ0 : St} {mc ms : Nat} {Q : Int32 → St → Prop} (X : VC p l (rmD 3 mc ms) s m args meth c G 3 mc ms 9 RX12 cX12_refills) (hr : meth.sig.returnType = (some .boolean)) (hin : meth.name = yX12_refills.name) (htr : l.stackTraces = false) {K106 : Nat → Int32 → Int32 → Int32 → Int32 → St → Prop} (hK106 : ∀ (a0 : Nat) (x1 : Int32) (x2 : Int32) (x3 : Int32) (x4 : Int32) (σ : St), K106 a0 x1 x2 x3 x4 σ → V p l e (rmD 3 mc ms) s m args below meth c (MQ below (va_Qi Q (gB G 2 σ0) (GA G)) args s mc ms (GA G)) G 2 σ0 mc ms 9 σ 0 0 [(some a0, 13)] 106 [(0, va_rf (some a0)), (1, .int x1), (2, .int x2), (3, .int x3), (4, .int x4)] []) : ∀ (f : Nat) (a0 : Nat) (x1 : Int32) (x2 : Int32) (x3 : Int32) (x4 : Int32) (x5 : Int32) (σ : St), w_X12_refills_115 Q K106 f a0 x1 x2 x3 x4 x5 σ → V p l e (rmD 3 mc ms) s m args below meth c (MQ below (va_Qi Q (gB G 2 σ0) (GA G)) args s mc ms (GA G)) G 2 σ0 mc ms 9 σ 0 0 [(some a0, 13)] 115 [(0, va_rf (some a0)), (1, .int x1), (2, .int x2), (3, .int x3), (4, .int x4), (5, .int x5)] [] := by
  intro f
  induction f with
  | zero => intro a0 x1 x2 x3 x4 x5 σ hw; exact hw.elim
  | succ f ih =>
    intro a0 x1 x2 x3 x4 x5 σ hw
    unfold w_X12_refills_115 at hw
    refine v_iload X 5 rfl (gD D_X12_refills_0 65 rfl) ?_
    refine v_bipush X 18 (gD D_X12_refills_0 66 rfl) (by decide) ?_
    refine v_icmp_ge X 242 (gD D_X12_refills_0 67 rfl) (by decide) (fun c66 => ?_) (fun c66 => ?_)
    · replace hw := hw.1 c66
      refine v_aload_n X 0 rfl (gD D_X12_refills_1 33 rfl) rfl ?_
      refine v_iload_n X 2 rfl (gD D_X12_refills_1 34 rfl) rfl ?_
      refine v_iload X 4 rfl (gD D_X12_refills_1 35 rfl) ?_
      refine v_callVi X (As := [.int x2, .int x4]) (rest := []) (nA := 2) 0 0 0 0 (fun ht => c_X12_nextLot htr (ht.sub [0] rfl) hw) (Or.inl rfl) 0 (κ := 13) rfl (by decide) (rfl : gCl[12]? = some (RX12, TX12, 65)) lk_vRX12_278 (by decide +kernel) rfl rfl (by decide) (by decide) (by decide) rfl rfl (gD D_X12_refills_1 36 rfl) (fun x67 s68 hq _ _ => ?_)
      replace hw := hq
      clear hq
      refine v_istore X [(4, .int x67), (0, va_rf (some a0)), (1, .int x1), (2, .int x2), (3, .int x3), (5, .int x5)] (gD D_X12_refills_1 37 rfl) (by decide) rfl ?_
      refine v_goto X 106 (gD D_X12_refills_1 38 rfl) (by decide) ?_
      exact v_sub [0] [1, 2, 3, 4, 0] rfl rfl (hK106 a0 x1 x2 x3 x67 s68 hw)
    · replace hw := hw.2 c66
      refine v_aload_n X 0 rfl (gD D_X12_refills_0 68 rfl) rfl ?_
      refine v_getR X RX12 TX12 65 13 12 (by decide) rfl gin12 6 1206 RX12 (Or.inl rfl) 0 21 rfl rfl rfl (by decide) lk_fRX12_16 (gD D_X12_refills_0 69 rfl) (fun o69 eo69 => ?_)
      replace hw := hw o69 eo69
      refine v_iload X 5 rfl (gD D_X12_refills_0 70 rfl) ?_
      obtain ⟨a70, rfl, hw⟩ := hw
      obtain ⟨h71, hw⟩ := hw
      refine v_iald X 0 rfl (by decide) h71 (gD D_X12_refills_0 71 rfl) ?_
      refine v_iconst X (-1) (gD D_X12_refills_0 72 rfl) (by decide) ?_
      refine v_icmp_ne X 144 (gD D_X12_refills_0 73 rfl) (by decide) (fun c72 => ?_) (fun c72 => ?_)
      · replace hw := hw.1 c72
        refine v_iconst X 0 (gD D_X12_refills_0 79 rfl) (by decide) ?_
        exact v_sub [1] [0, 1, 2, 3, 4, 5] rfl rfl (t_X12_refills_145 X hr hin htr hK106 ih a0 x1 x2 x3 x4 x5 0 σ hw)
      · replace hw := hw.2 c72
        refine v_aload_n X 0 rfl (gD D_X12_refills_0 74 rfl) rfl ?_
        refine v_iload X 5 rfl (gD D_X12_refills_0 75 rfl) ?_
        refine v_iload X 4 rfl (gD D_X12_refills_0 76 rfl) ?_
        refine v_callVi X (As := [.int x5, .int x4]) (rest := []) (nA := 2) 0 0 0 0 (fun ht => c_X12_freeAt htr (ht.sub [1] rfl) hw) (Or.inl rfl) 1 (κ := 13) rfl (by decide) (rfl : gCl[12]? = some (RX12, TX12, 65)) lk_vRX12_238 (by decide +kernel) rfl rfl (by decide) (by decide) (by decide) rfl rfl (gD D_X12_refills_0 77 rfl) (fun x96 s97 hq _ _ => ?_)
        replace hw := hq
        clear hq
        refine v_goto X 145 (gD D_X12_refills_0 78 rfl) (by decide) ?_
        exact v_sub [1] [0, 1, 2, 3, 4, 5] rfl rfl (t_X12_refills_145 X hr hin htr hK106 ih a0 x1 x2 x3 x4 x5 x96 s97 hw)
set_option maxRecDepth 100000 in
set_option maxHeartbeats 4000000 in
theorem t_X12_refills_106 {p : Program} {l : Launch} {e : Env} {s : State} {m : MethodId} {args : Array Value} {below : List Frame} {meth : Method} {c : Code} {G : GX} {σ0 : St} {mc ms : Nat} {Q : Int32 → St → Prop} (X : VC p l (rmD 3 mc ms) s m args meth c G 3 mc ms 9 RX12 cX12_refills) (hr : meth.sig.returnType = (some .boolean)) (hin : meth.name = yX12_refills.name) (htr : l.stackTraces = false) : ∀ (f : Nat) (a0 : Nat) (x1 : Int32) (x2 : Int32) (x3 : Int32) (x4 : Int32) (σ : St), w_X12_refills_106 Q  f a0 x1 x2 x3 x4 σ → V p l e (rmD 3 mc ms) s m args below meth c (MQ below (va_Qi Q (gB G 2 σ0) (GA G)) args s mc ms (GA G)) G 2 σ0 mc ms 9 σ 0 0 [(some a0, 13)] 106 [(0, va_rf (some a0)), (1, .int x1), (2, .int x2), (3, .int x3), (4, .int x4)] [] := by
  intro f
  induction f with
  | zero => intro a0 x1 x2 x3 x4 σ hw; exact hw.elim
  | succ f ih =>
    intro a0 x1 x2 x3 x4 σ hw
    unfold w_X12_refills_106 at hw
    refine v_iload X 4 rfl (gD D_X12_refills_0 60 rfl) ?_
    refine v_iconst X (-1) (gD D_X12_refills_0 61 rfl) (by decide) ?_
    refine v_icmp_eq X 254 (gD D_X12_refills_0 62 rfl) (by decide) (fun c65 => ?_) (fun c65 => ?_)
    · replace hw := hw.1 c65
      refine v_iconst X 0 (gD D_X12_refills_1 39 rfl) (by decide) ?_
      exact v_zret X hr (by decide) hw (gD D_X12_refills_1 40 rfl)
    · replace hw := hw.2 c65
      refine v_iconst X 0 (gD D_X12_refills_0 63 rfl) (by decide) ?_
      refine v_istore X [(5, .int 0), (0, va_rf (some a0)), (1, .int x1), (2, .int x2), (3, .int x3), (4, .int x4)] (gD D_X12_refills_0 64 rfl) (by decide) rfl ?_
      obtain ⟨f98, hw⟩ := hw
      exact v_sub [0] [1, 2, 3, 4, 5, 0] rfl rfl (t_X12_refills_115 X hr hin htr ih f98 a0 x1 x2 x3 x4 0 σ hw)
set_option maxRecDepth 100000 in
set_option maxHeartbeats 4000000 in
theorem t_X12_refills_17 {p : Program} {l : Launch} {e : Env} {s : State} {m : MethodId} {args : Array Value} {below : List Frame} {meth : Method} {c : Code} {G : GX} {σ0 : St} {mc ms : Nat} {Q : Int32 → St → Prop} (X : VC p l (rmD 3 mc ms) s m args meth c G 3 mc ms 9 RX12 cX12_refills) (hr : meth.sig.returnType = (some .boolean)) (hin : meth.name = yX12_refills.name) (htr : l.stackTraces = false) : ∀ (f : Nat) (a0 : Nat) (x1 : Int32) (x2 : Int32) (x3 : Int32) (x4 : Int32) (σ : St), w_X12_refills_17 Q  f a0 x1 x2 x3 x4 σ → V p l e (rmD 3 mc ms) s m args below meth c (MQ below (va_Qi Q (gB G 2 σ0) (GA G)) args s mc ms (GA G)) G 2 σ0 mc ms 9 σ 0 0 [(some a0, 13)] 17 [(0, va_rf (some a0)), (1, .int x1), (2, .int x2), (3, .int x3), (4, .int x4)] [] := by
  intro f
  induction f with
  | zero => intro a0 x1 x2 x3 x4 σ hw; exact hw.elim
  | succ f ih =>
    intro a0 x1 x2 x3 x4 σ hw
    unfold w_X12_refills_17 at hw
    refine v_iload X 4 rfl (gD D_X12_refills_0 12 rfl) ?_
    refine v_aload_n X 0 rfl (gD D_X12_refills_0 13 rfl) rfl ?_
    refine v_getI X RX12 TX12 65 13 12 (by decide) rfl gin12 45 1245 RX12 (Or.inl rfl) 0 rfl rfl (by decide) lk_fRX12_196 (gD D_X12_refills_0 14 rfl) ?_
    refine v_icmp_ge X 77 (gD D_X12_refills_0 15 rfl) (by decide) (fun c57 => ?_) (fun c57 => ?_)
    · replace hw := hw.1 c57
      refine v_iload_n X 3 rfl (gD D_X12_refills_0 43 rfl) rfl ?_
      refine v_aload_n X 0 rfl (gD D_X12_refills_0 44 rfl) rfl ?_
      refine v_getR X RX12 TX12 65 13 12 (by decide) rfl gin12 7 1207 RX12 (Or.inl rfl) 0 21 rfl rfl rfl (by decide) lk_fRX12_19 (gD D_X12_refills_0 45 rfl) (fun o58 eo58 => ?_)
      replace hw := hw o58 eo58
      refine v_iload_n X 1 rfl (gD D_X12_refills_0 46 rfl) rfl ?_
      obtain ⟨a59, rfl, hw⟩ := hw
      obtain ⟨h60, hw⟩ := hw
      refine v_iald X 0 rfl (by decide) h60 (gD D_X12_refills_0 47 rfl) ?_
      refine v_icmp_ge X 96 (gD D_X12_refills_0 48 rfl) (by decide) (fun c61 => ?_) (fun c61 => ?_)
      · replace hw := hw.1 c61
        refine v_iconst X 0 (gD D_X12_refills_0 53 rfl) (by decide) ?_
        exact v_zret X hr (by decide) hw (gD D_X12_refills_0 54 rfl)
      · replace hw := hw.2 c61
        refine v_aload_n X 0 rfl (gD D_X12_refills_0 49 rfl) rfl ?_
        refine v_getI X RX12 TX12 65 13 12 (by decide) rfl gin12 45 1245 RX12 (Or.inl rfl) 1 rfl rfl (by decide) lk_fRX12_196 (gD D_X12_refills_0 50 rfl) ?_
        refine v_bipush X 60 (gD D_X12_refills_0 51 rfl) (by decide) ?_
        refine v_icmp_ne X 98 (gD D_X12_refills_0 52 rfl) (by decide) (fun c62 => ?_) (fun c62 => ?_)
        · replace hw := hw.1 c62
          refine v_aload_n X 0 rfl (gD D_X12_refills_0 55 rfl) rfl ?_
          refine v_iload_n X 2 rfl (gD D_X12_refills_0 56 rfl) rfl ?_
          refine v_iconst X (-1) (gD D_X12_refills_0 57 rfl) (by decide) ?_
          refine v_callVi X (As := [.int x2, .int (-1)]) (rest := []) (nA := 2) 0 0 0 0 (fun ht => c_X12_nextLot htr (ht.sub [1] rfl) hw) (Or.inl rfl) 1 (κ := 13) rfl (by decide) (rfl : gCl[12]? = some (RX12, TX12, 65)) lk_vRX12_278 (by decide +kernel) rfl rfl (by decide) (by decide) (by decide) rfl rfl (gD D_X12_refills_0 58 rfl) (fun x63 s64 hq _ _ => ?_)
          replace hw := hq
          clear hq
          refine v_istore X [(4, .int x63), (0, va_rf (some a0)), (1, .int x1), (2, .int x2), (3, .int x3)] (gD D_X12_refills_0 59 rfl) (by decide) rfl ?_
          obtain ⟨f99, hw⟩ := hw
          exact v_sub [1] [1, 2, 3, 4, 0] rfl rfl (t_X12_refills_106 X hr hin htr  f99 a0 x1 x2 x3 x63 s64 hw)
        · replace hw := hw.2 c62
          refine v_iconst X 0 (gD D_X12_refills_0 53 rfl) (by decide) ?_
          exact v_zret X hr (by decide) hw (gD D_X12_refills_0 54 rfl)
    · replace hw := hw.2 c57
      refine v_iload_n X 3 rfl (gD D_X12_refills_0 16 rfl) rfl ?_
      refine v_aload_n X 0 rfl (gD D_X12_refills_0 17 rfl) rfl ?_
      refine v_iload X 4 rfl (gD D_X12_refills_0 18 rfl) ?_
      refine v_callVi X (As := [.int x4]) (rest := [.int x3]) (nA := 1) 0 0 0 0 (fun ht => c_X12_isOn htr (ht.sub [0] rfl) hw) (Or.inl rfl) 0 (κ := 13) rfl (by decide) (rfl : gCl[12]? = some (RX12, TX12, 65)) lk_vRX12_199 (by decide +kernel) rfl rfl (by simp [rf_cat, ct_i]) (by decide) (by decide) rfl rfl (gD D_X12_refills_0 19 rfl) (fun x100 s101 hq _ _ => ?_)
      replace hw := hq
      clear hq
      refine v_if_eq X 68 (gD D_X12_refills_0 20 rfl) (by decide) (fun c102 => ?_) (fun c102 => ?_)
      · replace hw := hw.1 c102
        refine v_iconst X 0 (gD D_X12_refills_0 38 rfl) (by decide) ?_
        refine v_iadd X (gD D_X12_refills_0 39 rfl) ?_
        refine v_topi (fun x103 ex103 => ?_)
        replace hw := hw x103 ex103
        refine v_istore_n X [(3, .int x103), (0, va_rf (some a0)), (1, .int x1), (2, .int x2), (4, .int x4)] (gD D_X12_refills_0 40 rfl) rfl (by decide) rfl ?_
        refine v_iinc X (x4 + 1) 4 rfl [(4, .int (x4 + 1)), (3, .int x103), (0, va_rf (some a0)), (1, .int x1), (2, .int x2)] (gD D_X12_refills_0 41 rfl) rfl (by decide) rfl ?_
        refine v_goto X 17 (gD D_X12_refills_0 42 rfl) (by decide) ?_
        exact v_sub [0] [2, 3, 4, 1, 0] rfl rfl (ih a0 x1 x2 x103 (x4 + 1) s101 hw)
      · replace hw := hw.2 c102
        refine v_aload_n X 0 rfl (gD D_X12_refills_0 21 rfl) rfl ?_
        refine v_getR X RX12 TX12 65 13 12 (by decide) rfl gin12 46 1246 RX12 (Or.inl rfl) 0 21 rfl rfl rfl (by decide) lk_fRX12_122 (gD D_X12_refills_0 22 rfl) (fun o104 eo104 => ?_)
        replace hw := hw o104 eo104
        refine v_iload X 4 rfl (gD D_X12_refills_0 23 rfl) ?_
        obtain ⟨a105, rfl, hw⟩ := hw
        obtain ⟨h106, hw⟩ := hw
        refine v_iald X 0 rfl (by decide) h106 (gD D_X12_refills_0 24 rfl) ?_
        refine v_iconst X 1 (gD D_X12_refills_0 25 rfl) (by decide) ?_
        refine v_icmp_ne X 68 (gD D_X12_refills_0 26 rfl) (by decide) (fun c107 => ?_) (fun c107 => ?_)
        · replace hw := hw.1 c107
          refine v_iconst X 0 (gD D_X12_refills_0 38 rfl) (by decide) ?_
          refine v_iadd X (gD D_X12_refills_0 39 rfl) ?_
          refine v_topi (fun x108 ex108 => ?_)
          replace hw := hw x108 ex108
          refine v_istore_n X [(3, .int x108), (0, va_rf (some a0)), (1, .int x1), (2, .int x2), (4, .int x4)] (gD D_X12_refills_0 40 rfl) rfl (by decide) rfl ?_
          refine v_iinc X (x4 + 1) 4 rfl [(4, .int (x4 + 1)), (3, .int x108), (0, va_rf (some a0)), (1, .int x1), (2, .int x2)] (gD D_X12_refills_0 41 rfl) rfl (by decide) rfl ?_
          refine v_goto X 17 (gD D_X12_refills_0 42 rfl) (by decide) ?_
          exact v_sub [1] [2, 3, 4, 1, 0] rfl rfl (ih a0 x1 x2 x108 (x4 + 1) s101 hw)
        · replace hw := hw.2 c107
          refine v_aload_n X 0 rfl (gD D_X12_refills_0 27 rfl) rfl ?_
          refine v_getR X RX12 TX12 65 13 12 (by decide) rfl gin12 49 1249 RX12 (Or.inl rfl) 1 21 rfl rfl rfl (by decide) lk_fRX12_131 (gD D_X12_refills_0 28 rfl) (fun o109 eo109 => ?_)
          replace hw := hw o109 eo109
          refine v_iload X 4 rfl (gD D_X12_refills_0 29 rfl) ?_
          obtain ⟨a110, rfl, hw⟩ := hw
          obtain ⟨h111, hw⟩ := hw
          refine v_iald X 0 rfl (by decide) h111 (gD D_X12_refills_0 30 rfl) ?_
          refine v_iload_n X 1 rfl (gD D_X12_refills_0 31 rfl) rfl ?_
          refine v_icmp_ne X 68 (gD D_X12_refills_0 32 rfl) (by decide) (fun c112 => ?_) (fun c112 => ?_)
          · replace hw := hw.1 c112
            refine v_iconst X 0 (gD D_X12_refills_0 38 rfl) (by decide) ?_
            refine v_iadd X (gD D_X12_refills_0 39 rfl) ?_
            refine v_topi (fun x113 ex113 => ?_)
            replace hw := hw x113 ex113
            refine v_istore_n X [(3, .int x113), (0, va_rf (some a0)), (1, .int x1), (2, .int x2), (4, .int x4)] (gD D_X12_refills_0 40 rfl) rfl (by decide) rfl ?_
            refine v_iinc X (x4 + 1) 4 rfl [(4, .int (x4 + 1)), (3, .int x113), (0, va_rf (some a0)), (1, .int x1), (2, .int x2)] (gD D_X12_refills_0 41 rfl) rfl (by decide) rfl ?_
            refine v_goto X 17 (gD D_X12_refills_0 42 rfl) (by decide) ?_
            exact v_sub [2] [2, 3, 4, 1, 0] rfl rfl (ih a0 x1 x2 x113 (x4 + 1) s101 hw)
          · replace hw := hw.2 c112
            refine v_aload_n X 0 rfl (gD D_X12_refills_0 33 rfl) rfl ?_
            refine v_getR X RX12 TX12 65 13 12 (by decide) rfl gin12 51 1251 RX12 (Or.inl rfl) 2 21 rfl rfl rfl (by decide) lk_fRX12_137 (gD D_X12_refills_0 34 rfl) (fun o114 eo114 => ?_)
            replace hw := hw o114 eo114
            refine v_iload X 4 rfl (gD D_X12_refills_0 35 rfl) ?_
            obtain ⟨a115, rfl, hw⟩ := hw
            obtain ⟨h116, hw⟩ := hw
            refine v_iald X 0 rfl (by decide) h116 (gD D_X12_refills_0 36 rfl) ?_
            refine v_goto X 69 (gD D_X12_refills_0 37 rfl) (by decide) ?_
            refine v_iadd X (gD D_X12_refills_0 39 rfl) ?_
            refine v_topi (fun x117 ex117 => ?_)
            replace hw := hw x117 ex117
            refine v_istore_n X [(3, .int x117), (0, va_rf (some a0)), (1, .int x1), (2, .int x2), (4, .int x4)] (gD D_X12_refills_0 40 rfl) rfl (by decide) rfl ?_
            refine v_iinc X (x4 + 1) 4 rfl [(4, .int (x4 + 1)), (3, .int x117), (0, va_rf (some a0)), (1, .int x1), (2, .int x2)] (gD D_X12_refills_0 41 rfl) rfl (by decide) rfl ?_
            refine v_goto X 17 (gD D_X12_refills_0 42 rfl) (by decide) ?_
            exact v_sub [3] [2, 3, 4, 1, 0] rfl rfl (ih a0 x1 x2 x117 (x4 + 1) s101 hw)
set_option maxRecDepth 100000 in
set_option maxHeartbeats 4000000 in
theorem c_X12_refills {l : Launch} {G : GX} (htr : l.stackTraces = false) {σ : St} {a0 : Nat} {x1 : Int32} {Q : Int32 → St → Prop} (ht : tvOk σ [(some a0, 13)]) (hw : w_X12_refills a0 x1 σ Q) : MI l G 2 σ yX12_refills cX12_refills 9 (some .boolean) 3 0 0 [va_rf (some a0), .int x1] Q := by
  unfold w_X12_refills at hw
  refine m_start RX12 (by decide) htr ht (Nat.le_of_ble_eq_true rfl) rfl (lv := [(0, va_rf (some a0)), (1, .int x1)]) (d := 2) (fun p e s m args below meth c X hr hin => ?_)
  refine v_aload_n X 0 rfl (gD D_X12_refills_0 0 rfl) rfl ?_
  refine v_getR X RX12 TX12 65 13 12 (by decide) rfl gin12 6 1206 RX12 (Or.inl rfl) 0 21 rfl rfl rfl (by decide) lk_fRX12_16 (gD D_X12_refills_0 1 rfl) (fun o51 eo51 => ?_)
  replace hw := hw o51 eo51
  refine v_iload_n X 1 rfl (gD D_X12_refills_0 2 rfl) rfl ?_
  obtain ⟨a52, rfl, hw⟩ := hw
  obtain ⟨h53, hw⟩ := hw
  refine v_iald X 0 rfl (by decide) h53 (gD D_X12_refills_0 3 rfl) ?_
  refine v_topi (fun x54 ex54 => ?_)
  replace hw := hw x54 ex54
  refine v_istore_n X [(2, .int x54), (0, va_rf (some a0)), (1, .int x1)] (gD D_X12_refills_0 4 rfl) rfl (by decide) rfl ?_
  refine v_aload_n X 1 rfl (gD D_X12_refills_0 5 rfl) rfl ?_
  refine v_iload_n X 2 rfl (gD D_X12_refills_0 6 rfl) rfl ?_
  refine v_iload_n X 0 rfl (gD D_X12_refills_0 7 rfl) rfl ?_
  refine v_callVi X (As := [.int x1, .int x54]) (rest := []) (nA := 2) 0 0 0 0 (fun ht => c_X12_itemIn htr (ht.sub [1] rfl) hw) (Or.inl rfl) 1 (κ := 13) rfl (by decide) (rfl : gCl[12]? = some (RX12, TX12, 65)) lk_vRX12_214 (by decide +kernel) rfl rfl (by decide) (by decide) (by decide) rfl rfl (gD D_X12_refills_0 8 rfl) (fun x55 s56 hq _ _ => ?_)
  replace hw := hq
  clear hq
  refine v_istore_n X [(3, .int x55), (2, .int x54), (0, va_rf (some a0)), (1, .int x1)] (gD D_X12_refills_0 9 rfl) rfl (by decide) rfl ?_
  refine v_iconst X 0 (gD D_X12_refills_0 10 rfl) (by decide) ?_
  refine v_istore X [(4, .int 0), (3, .int x55), (2, .int x54), (0, va_rf (some a0)), (1, .int x1)] (gD D_X12_refills_0 11 rfl) (by decide) rfl ?_
  obtain ⟨f118, hw⟩ := hw
  exact v_sub [1] [3, 4, 2, 1, 0] rfl rfl (t_X12_refills_17 X hr hin htr  f118 a0 x1 x54 x55 0 s56 hw)
set_option maxRecDepth 100000 in
set_option maxHeartbeats 4000000 in
theorem t_X12_room_13 {p : Program} {l : Launch} {e : Env} {s : State} {m : MethodId} {args : Array Value} {below : List Frame} {meth : Method} {c : Code} {G : GX} {σ0 : St} {mc ms : Nat} {Q : Int32 → St → Prop} (X : VC p l (rmD 3 mc ms) s m args meth c G 3 mc ms 2 RX12 cX12_room) (hr : meth.sig.returnType = (some .int)) (hin : meth.name = yX12_room.name) (htr : l.stackTraces = false) : ∀ (a0 : Nat) (x1 : Int32) (as0 : Nat) (xs1 : Int32) (σ : St), w_X12_room_13 Q  a0 x1 as0 xs1 σ → V p l e (rmD 3 mc ms) s m args below meth c (MQ below (va_Qi Q (gB G 2 σ0) (GA G)) args s mc ms (GA G)) G 2 σ0 mc ms 2 σ 0 0 [(some a0, 13), (some as0, 13)] 13 [(0, va_rf (some a0)), (1, .int x1)] [.int xs1, va_rf (some as0)] := by
  intro a0 x1 as0 xs1 σ hw
  unfold w_X12_room_13 at hw
  refine v_callVi X (As := [.int xs1]) (rest := []) (nA := 1) 0 0 0 0 (fun ht => c_X12_holds htr (ht.sub [1] rfl) hw) (Or.inl rfl) 1 (κ := 13) rfl (by decide) (rfl : gCl[12]? = some (RX12, TX12, 65)) lk_vRX12_223 (by decide +kernel) rfl rfl (by decide) (by decide) (by decide) rfl rfl (gD D_X12_room_0 7 rfl) (fun x54 s55 hq _ _ => ?_)
  replace hw := hq
  clear hq
  refine v_if_eq X 27 (gD D_X12_room_0 8 rfl) (by decide) (fun c56 => ?_) (fun c56 => ?_)
  · replace hw := hw.1 c56
    refine v_iconst X 0 (gD D_X12_room_0 13 rfl) (by decide) ?_
    exact v_iret X hr hw (gD D_X12_room_0 14 rfl)
  · replace hw := hw.2 c56
    refine v_aload_n X 0 rfl (gD D_X12_room_0 9 rfl) rfl ?_
    refine v_iload_n X 1 rfl (gD D_X12_room_0 10 rfl) rfl ?_
    refine v_callVi X (As := [.int x1]) (rest := []) (nA := 1) 0 0 0 0 (fun ht => c_X12_roomLeft htr (ht.sub [0] rfl) hw) (Or.inl rfl) 0 (κ := 13) rfl (by decide) (rfl : gCl[12]? = some (RX12, TX12, 65)) lk_vRX12_241 (by decide +kernel) rfl rfl (by decide) (by decide) (by decide) rfl rfl (gD D_X12_room_0 11 rfl) (fun x57 s58 hq _ _ => ?_)
    replace hw := hq
    clear hq
    refine v_goto X 28 (gD D_X12_room_0 12 rfl) (by decide) ?_
    exact v_iret X hr hw (gD D_X12_room_0 14 rfl)
set_option maxRecDepth 100000 in
set_option maxHeartbeats 4000000 in
theorem c_X12_room {l : Launch} {G : GX} (htr : l.stackTraces = false) {σ : St} {a0 : Nat} {x1 : Int32} {Q : Int32 → St → Prop} (ht : tvOk σ [(some a0, 13)]) (hw : w_X12_room a0 x1 σ Q) : MI l G 2 σ yX12_room cX12_room 2 (some .int) 3 0 0 [va_rf (some a0), .int x1] Q := by
  unfold w_X12_room at hw
  refine m_start RX12 (by decide) htr ht (Nat.le_of_ble_eq_true rfl) rfl (lv := [(0, va_rf (some a0)), (1, .int x1)]) (d := 2) (fun p e s m args below meth c X hr hin => ?_)
  refine v_aload_n X 0 rfl (gD D_X12_room_0 0 rfl) rfl ?_
  refine v_iload_n X 1 rfl (gD D_X12_room_0 1 rfl) rfl ?_
  refine v_callSi X (As := [.int x1]) (rest := [va_rf (some a0)]) (nA := 1) 0 0 0 0 (fun ht => c_X12_isSlot htr (ht.sub [] rfl) hw) (Or.inl rfl) lk_sRX12_217 (by decide +kernel) rfl rfl (by simp [rf_cat, ct_i]) (by decide) (by decide) rfl rfl (gD D_X12_room_0 2 rfl) (fun x51 s52 hq _ _ => ?_)
  replace hw := hq
  clear hq
  refine v_if_eq X 12 (gD D_X12_room_0 3 rfl) (by decide) (fun c53 => ?_) (fun c53 => ?_)
  · replace hw := hw.1 c53
    refine v_iconst X 1 (gD D_X12_room_0 6 rfl) (by decide) ?_
    exact v_sub [0, 0] [0, 1] rfl rfl (t_X12_room_13 X hr hin htr  a0 x1 a0 1 s52 hw)
  · replace hw := hw.2 c53
    refine v_iconst X 0 (gD D_X12_room_0 4 rfl) (by decide) ?_
    refine v_goto X 13 (gD D_X12_room_0 5 rfl) (by decide) ?_
    exact v_sub [0, 0] [0, 1] rfl rfl (t_X12_room_13 X hr hin htr  a0 x1 a0 0 s52 hw)
set_option maxRecDepth 100000 in
set_option maxHeartbeats 4000000 in
theorem t_X12_slot_63 {p : Program} {l : Launch} {e : Env} {s : State} {m : MethodId} {args : Array Value} {below : List Frame} {meth : Method} {c : Code} {G : GX} {σ0 : St} {mc ms : Nat} {Q : St → Prop} (X : VC p l (rmD 3 mc ms) s m args meth c G 3 mc ms 5 RX12 cX12_slot) (hr : meth.sig.returnType = none) (hin : meth.name = yX12_slot.name) (htr : l.stackTraces = false) : ∀ (a0 : Nat) (x1 : Int32) (x2 : Int32) (x3 : Int32) (as0 : Nat) (xs1 : Int32) (σ : St), w_X12_slot_63 Q  a0 x1 x2 x3 as0 xs1 σ → V p l e (rmD 3 mc ms) s m args below meth c (MQ below (va_Qv Q (gB G 2 σ0) (GA G)) args s mc ms (GA G)) G 2 σ0 mc ms 5 σ 0 0 [(some a0, 13), (some as0, 13)] 63 [(0, va_rf (some a0)), (1, .int x1), (2, .int x2), (3, .int x3)] [.int xs1, va_rf (some as0)] := by
  intro a0 x1 x2 x3 as0 xs1 σ hw
  unfold w_X12_slot_63 at hw
  refine v_callVi X (As := [.int xs1]) (rest := []) (nA := 1) 0 0 0 0 (fun ht => c_X12_holds htr (ht.sub [1] rfl) hw) (Or.inl rfl) 1 (κ := 13) rfl (by decide) (rfl : gCl[12]? = some (RX12, TX12, 65)) lk_vRX12_223 (by decide +kernel) rfl rfl (by decide) (by decide) (by decide) rfl rfl (gD D_X12_slot_0 33 rfl) (fun x57 s58 hq _ _ => ?_)
  replace hw := hq
  clear hq
  refine v_if_eq X 83 (gD D_X12_slot_0 34 rfl) (by decide) (fun c59 => ?_) (fun c59 => ?_)
  · replace hw := hw.1 c59
    exact v_vret X hr hw (gD D_X12_slot_0 45 rfl)
  · replace hw := hw.2 c59
    refine v_aload_n X 0 rfl (gD D_X12_slot_0 35 rfl) rfl ?_
    refine v_getR X RX12 TX12 65 13 12 (by decide) rfl gin12 4 1204 RX12 (Or.inl rfl) 0 21 rfl rfl rfl (by decide) lk_fRX12_7 (gD D_X12_slot_0 36 rfl) (fun o60 eo60 => ?_)
    replace hw := hw o60 eo60
    refine v_iload_n X 1 rfl (gD D_X12_slot_0 37 rfl) rfl ?_
    refine v_iload_n X 2 rfl (gD D_X12_slot_0 38 rfl) rfl ?_
    obtain ⟨a61, rfl, hw⟩ := hw
    obtain ⟨h62, hw⟩ := hw
    refine v_iast X 0 rfl (by decide) (Or.inl rfl) h62 (gD D_X12_slot_0 39 rfl) (fun s63 es63 => ?_)
    replace hw := hw s63 es63
    refine v_aload_n X 0 rfl (gD D_X12_slot_0 40 rfl) rfl ?_
    refine v_getR X RX12 TX12 65 13 12 (by decide) rfl gin12 5 1205 RX12 (Or.inl rfl) 1 21 rfl rfl rfl (by decide) lk_fRX12_13 (gD D_X12_slot_0 41 rfl) (fun o64 eo64 => ?_)
    replace hw := hw o64 eo64
    refine v_iload_n X 1 rfl (gD D_X12_slot_0 42 rfl) rfl ?_
    refine v_iload_n X 3 rfl (gD D_X12_slot_0 43 rfl) rfl ?_
    obtain ⟨a65, rfl, hw⟩ := hw
    obtain ⟨h66, hw⟩ := hw
    refine v_iast X 0 rfl (by decide) (Or.inl rfl) h66 (gD D_X12_slot_0 44 rfl) (fun s67 es67 => ?_)
    replace hw := hw s67 es67
    exact v_vret X hr hw (gD D_X12_slot_0 45 rfl)
set_option maxRecDepth 100000 in
set_option maxHeartbeats 4000000 in
theorem c_X12_slot {l : Launch} {G : GX} (htr : l.stackTraces = false) {σ : St} {a0 : Nat} {x1 : Int32} {x2 : Int32} {x3 : Int32} {Q : St → Prop} (ht : tvOk σ [(some a0, 13)]) (hw : w_X12_slot a0 x1 x2 x3 σ Q) : MV l G 2 σ yX12_slot cX12_slot 5 3 0 0 [va_rf (some a0), .int x1, .int x2, .int x3] Q := by
  unfold w_X12_slot at hw
  refine m_start RX12 (by decide) htr ht (Nat.le_of_ble_eq_true rfl) rfl (lv := [(0, va_rf (some a0)), (1, .int x1), (2, .int x2), (3, .int x3)]) (d := 2) (fun p e s m args below meth c X hr hin => ?_)
  refine v_iload_n X 1 rfl (gD D_X12_slot_0 0 rfl) rfl ?_
  refine v_callSi X (As := [.int x1]) (rest := []) (nA := 1) 0 0 0 0 (fun ht => c_X12_isSlot htr (ht.sub [] rfl) hw) (Or.inl rfl) lk_sRX12_217 (by decide +kernel) rfl rfl (by decide) (by decide) (by decide) rfl rfl (gD D_X12_slot_0 1 rfl) (fun x51 s52 hq _ _ => ?_)
  replace hw := hq
  clear hq
  refine v_istore X [(4, .int x51), (0, va_rf (some a0)), (1, .int x1), (2, .int x2), (3, .int x3)] (gD D_X12_slot_0 2 rfl) (by decide) rfl ?_
  refine v_aload_n X 1 rfl (gD D_X12_slot_0 3 rfl) rfl ?_
  refine v_iload X 0 rfl (gD D_X12_slot_0 4 rfl) ?_
  refine v_if_ne X 16 (gD D_X12_slot_0 5 rfl) (by decide) (fun c53 => ?_) (fun c53 => ?_)
  · replace hw := hw.1 c53
    refine v_iload_n X 3 rfl (gD D_X12_slot_0 8 rfl) rfl ?_
    refine v_iconst X 0 (gD D_X12_slot_0 9 rfl) (by decide) ?_
    refine v_iconst X 2 (gD D_X12_slot_0 10 rfl) (by decide) ?_
    refine v_callSi X (As := [.int x2, .int 0, .int 2]) (rest := [va_rf (some a0)]) (nA := 3) 0 0 0 0 (fun ht => c_X12_isIn htr (ht.sub [] rfl) hw) (Or.inl rfl) lk_sRX12_183 (by decide +kernel) rfl rfl (by simp [rf_cat, ct_i]) (by decide) (by decide) rfl rfl (gD D_X12_slot_0 11 rfl) (fun x54 s55 hq _ _ => ?_)
    replace hw := hq
    clear hq
    refine v_if_eq X 36 (gD D_X12_slot_0 12 rfl) (by decide) (fun c56 => ?_) (fun c56 => ?_)
    · replace hw := hw.1 c56
      refine v_iconst X 2 (gD D_X12_slot_0 18 rfl) (by decide) ?_
      refine v_goto X 63 (gD D_X12_slot_0 19 rfl) (by decide) ?_
      exact v_sub [0, 0] [1, 2, 3, 4] rfl rfl (t_X12_slot_63 X hr hin htr  a0 x1 x2 x3 a0 2 s55 hw)
    · replace hw := hw.2 c56
      refine v_iload_n X 4 rfl (gD D_X12_slot_0 13 rfl) rfl ?_
      refine v_iconst X 1 (gD D_X12_slot_0 14 rfl) (by decide) ?_
      refine v_sipush X 200 (gD D_X12_slot_0 15 rfl) (by decide) ?_
      refine v_callSi X (As := [.int x3, .int 1, .int 200]) (rest := [va_rf (some a0)]) (nA := 3) 0 0 0 0 (fun ht => c_X12_isIn htr (ht.sub [] rfl) hw) (Or.inl rfl) lk_sRX12_183 (by decide +kernel) rfl rfl (by simp [rf_cat, ct_i]) (by decide) (by decide) rfl rfl (gD D_X12_slot_0 16 rfl) (fun x68 s69 hq _ _ => ?_)
      replace hw := hq
      clear hq
      refine v_if_ne X 40 (gD D_X12_slot_0 17 rfl) (by decide) (fun c70 => ?_) (fun c70 => ?_)
      · replace hw := hw.1 c70
        refine v_aload_n X 1 rfl (gD D_X12_slot_0 20 rfl) rfl ?_
        refine v_iload_n X 2 rfl (gD D_X12_slot_0 21 rfl) rfl ?_
        refine v_callVi X (As := [.int x1]) (rest := [va_rf (some a0)]) (nA := 1) 0 0 0 0 (fun ht => c_X12_isEmpty htr (ht.sub [0] rfl) hw) (Or.inl rfl) 0 (κ := 13) rfl (by decide) (rfl : gCl[12]? = some (RX12, TX12, 65)) lk_vRX12_220 (by decide +kernel) rfl rfl (by simp [rf_cat, ct_i]) (by decide) (by decide) rfl rfl (gD D_X12_slot_0 22 rfl) (fun x71 s72 hq _ _ => ?_)
        replace hw := hq
        clear hq
        refine v_if_eq X 58 (gD D_X12_slot_0 23 rfl) (by decide) (fun c73 => ?_) (fun c73 => ?_)
        · replace hw := hw.1 c73
          refine v_iconst X 3 (gD D_X12_slot_0 30 rfl) (by decide) ?_
          refine v_goto X 63 (gD D_X12_slot_0 31 rfl) (by decide) ?_
          exact v_sub [0, 0] [1, 2, 3, 4] rfl rfl (t_X12_slot_63 X hr hin htr  a0 x1 x2 x3 a0 3 s72 hw)
        · replace hw := hw.2 c73
          refine v_aload_n X 1 rfl (gD D_X12_slot_0 24 rfl) rfl ?_
          refine v_getR X RX12 TX12 65 13 12 (by decide) rfl gin12 6 1206 RX12 (Or.inl rfl) 0 21 rfl rfl rfl (by decide) lk_fRX12_16 (gD D_X12_slot_0 25 rfl) (fun o74 eo74 => ?_)
          replace hw := hw o74 eo74
          refine v_iload_n X 2 rfl (gD D_X12_slot_0 26 rfl) rfl ?_
          obtain ⟨a75, rfl, hw⟩ := hw
          obtain ⟨h76, hw⟩ := hw
          refine v_iald X 0 rfl (by decide) h76 (gD D_X12_slot_0 27 rfl) ?_
          refine v_iconst X (-1) (gD D_X12_slot_0 28 rfl) (by decide) ?_
          refine v_icmp_eq X 62 (gD D_X12_slot_0 29 rfl) (by decide) (fun c77 => ?_) (fun c77 => ?_)
          · replace hw := hw.1 c77
            refine v_iconst X 0 (gD D_X12_slot_0 32 rfl) (by decide) ?_
            exact v_sub [1, 1] [1, 2, 3, 4] rfl rfl (t_X12_slot_63 X hr hin htr  a0 x1 x2 x3 a0 0 s72 hw)
          · replace hw := hw.2 c77
            refine v_iconst X 3 (gD D_X12_slot_0 30 rfl) (by decide) ?_
            refine v_goto X 63 (gD D_X12_slot_0 31 rfl) (by decide) ?_
            exact v_sub [1, 1] [1, 2, 3, 4] rfl rfl (t_X12_slot_63 X hr hin htr  a0 x1 x2 x3 a0 3 s72 hw)
      · replace hw := hw.2 c70
        refine v_iconst X 2 (gD D_X12_slot_0 18 rfl) (by decide) ?_
        refine v_goto X 63 (gD D_X12_slot_0 19 rfl) (by decide) ?_
        exact v_sub [0, 0] [1, 2, 3, 4] rfl rfl (t_X12_slot_63 X hr hin htr  a0 x1 x2 x3 a0 2 s69 hw)
  · replace hw := hw.2 c53
    refine v_iconst X 1 (gD D_X12_slot_0 6 rfl) (by decide) ?_
    refine v_goto X 63 (gD D_X12_slot_0 7 rfl) (by decide) ?_
    exact v_sub [0, 0] [1, 2, 3, 4] rfl rfl (t_X12_slot_63 X hr hin htr  a0 x1 x2 x3 a0 1 s52 hw)
set_option maxRecDepth 100000 in
set_option maxHeartbeats 4000000 in
theorem c_X12_stock {l : Launch} {G : GX} (htr : l.stackTraces = false) {σ : St} {a0 : Nat} {x1 : Int32} {x2 : Int32} {Q : Int32 → St → Prop} (ht : tvOk σ [(some a0, 13)]) (hw : w_X12_stock a0 x1 x2 σ Q) : MI l G 2 σ yX12_stock cX12_stock 3 (some .int) 3 0 0 [va_rf (some a0), .int x1, .int x2] Q := by
  unfold w_X12_stock at hw
  refine m_start RX12 (by decide) htr ht (Nat.le_of_ble_eq_true rfl) rfl (lv := [(0, va_rf (some a0)), (1, .int x1), (2, .int x2)]) (d := 2) (fun p e s m args below meth c X hr hin => ?_)
  refine v_aload_n X 0 rfl (gD D_X12_stock_0 0 rfl) rfl ?_
  refine v_iload_n X 1 rfl (gD D_X12_stock_0 1 rfl) rfl ?_
  refine v_bipush X 27 (gD D_X12_stock_0 2 rfl) (by decide) ?_
  refine v_iload_n X 2 rfl (gD D_X12_stock_0 3 rfl) rfl ?_
  refine v_callVi X (As := [.int x1, .int 27, .int x2]) (rest := []) (nA := 3) 0 0 0 0 (fun ht => c_X12_isAsked htr (ht.sub [0] rfl) hw) (Or.inl rfl) 0 (κ := 13) rfl (by decide) (rfl : gCl[12]? = some (RX12, TX12, 65)) lk_vRX12_235 (by decide +kernel) rfl rfl (by decide) (by decide) (by decide) rfl rfl (gD D_X12_stock_0 4 rfl) (fun x51 s52 hq _ _ => ?_)
  replace hw := hq
  clear hq
  refine v_if_eq X 25 (gD D_X12_stock_0 5 rfl) (by decide) (fun c53 => ?_) (fun c53 => ?_)
  · replace hw := hw.1 c53
    refine v_iconst X 0 (gD D_X12_stock_0 15 rfl) (by decide) ?_
    exact v_iret X hr hw (gD D_X12_stock_0 16 rfl)
  · replace hw := hw.2 c53
    refine v_aload_n X 0 rfl (gD D_X12_stock_0 6 rfl) rfl ?_
    refine v_getR X RX12 TX12 65 13 12 (by decide) rfl gin12 19 1219 RX12 (Or.inl rfl) 0 21 rfl rfl rfl (by decide) lk_fRX12_53 (gD D_X12_stock_0 7 rfl) (fun o54 eo54 => ?_)
    replace hw := hw o54 eo54
    refine v_bipush X 12 (gD D_X12_stock_0 8 rfl) (by decide) ?_
    refine v_iload_n X 1 rfl (gD D_X12_stock_0 9 rfl) rfl ?_
    refine v_imul X (gD D_X12_stock_0 10 rfl) ?_
    refine v_iload_n X 2 rfl (gD D_X12_stock_0 11 rfl) rfl ?_
    refine v_iadd X (gD D_X12_stock_0 12 rfl) ?_
    obtain ⟨a55, rfl, hw⟩ := hw
    obtain ⟨h56, hw⟩ := hw
    refine v_iald X 0 rfl (by decide) h56 (gD D_X12_stock_0 13 rfl) ?_
    refine v_goto X 26 (gD D_X12_stock_0 14 rfl) (by decide) ?_
    exact v_iret X hr hw (gD D_X12_stock_0 16 rfl)
set_option maxRecDepth 100000 in
set_option maxHeartbeats 4000000 in
theorem c_X12_stockAnew {l : Launch} {G : GX} (htr : l.stackTraces = false) {σ : St} {a0 : Nat} {x1 : Int32} {x2 : Int32} {Q : Int32 → St → Prop} (ht : tvOk σ [(some a0, 13)]) (hw : w_X12_stockAnew a0 x1 x2 σ Q) : MI l G 2 σ yX12_stockAnew cX12_stockAnew 3 (some .int) 3 0 0 [va_rf (some a0), .int x1, .int x2] Q := by
  unfold w_X12_stockAnew at hw
  refine m_start RX12 (by decide) htr ht (Nat.le_of_ble_eq_true rfl) rfl (lv := [(0, va_rf (some a0)), (1, .int x1), (2, .int x2)]) (d := 2) (fun p e s m args below meth c X hr hin => ?_)
  refine v_aload_n X 0 rfl (gD D_X12_stockAnew_0 0 rfl) rfl ?_
  refine v_iload_n X 1 rfl (gD D_X12_stockAnew_0 1 rfl) rfl ?_
  refine v_bipush X 27 (gD D_X12_stockAnew_0 2 rfl) (by decide) ?_
  refine v_iload_n X 2 rfl (gD D_X12_stockAnew_0 3 rfl) rfl ?_
  refine v_callVi X (As := [.int x1, .int 27, .int x2]) (rest := []) (nA := 3) 0 0 0 0 (fun ht => c_X12_isAsked htr (ht.sub [0] rfl) hw) (Or.inl rfl) 0 (κ := 13) rfl (by decide) (rfl : gCl[12]? = some (RX12, TX12, 65)) lk_vRX12_235 (by decide +kernel) rfl rfl (by decide) (by decide) (by decide) rfl rfl (gD D_X12_stockAnew_0 4 rfl) (fun x51 s52 hq _ _ => ?_)
  replace hw := hq
  clear hq
  refine v_if_eq X 25 (gD D_X12_stockAnew_0 5 rfl) (by decide) (fun c53 => ?_) (fun c53 => ?_)
  · replace hw := hw.1 c53
    refine v_iconst X 0 (gD D_X12_stockAnew_0 15 rfl) (by decide) ?_
    exact v_iret X hr hw (gD D_X12_stockAnew_0 16 rfl)
  · replace hw := hw.2 c53
    refine v_aload_n X 0 rfl (gD D_X12_stockAnew_0 6 rfl) rfl ?_
    refine v_getR X RX12 TX12 65 13 12 (by decide) rfl gin12 19 1219 RX12 (Or.inl rfl) 0 21 rfl rfl rfl (by decide) lk_fRX12_53 (gD D_X12_stockAnew_0 7 rfl) (fun o54 eo54 => ?_)
    replace hw := hw o54 eo54
    refine v_bipush X 12 (gD D_X12_stockAnew_0 8 rfl) (by decide) ?_
    refine v_iload_n X 1 rfl (gD D_X12_stockAnew_0 9 rfl) rfl ?_
    refine v_imul X (gD D_X12_stockAnew_0 10 rfl) ?_
    refine v_iload_n X 2 rfl (gD D_X12_stockAnew_0 11 rfl) rfl ?_
    refine v_iadd X (gD D_X12_stockAnew_0 12 rfl) ?_
    obtain ⟨a55, rfl, hw⟩ := hw
    obtain ⟨h56, hw⟩ := hw
    refine v_iald X 0 rfl (by decide) h56 (gD D_X12_stockAnew_0 13 rfl) ?_
    refine v_goto X 26 (gD D_X12_stockAnew_0 14 rfl) (by decide) ?_
    exact v_iret X hr hw (gD D_X12_stockAnew_0 16 rfl)
set_option maxRecDepth 100000 in
set_option maxHeartbeats 4000000 in
theorem t_X12_allocates_13 {p : Program} {l : Launch} {e : Env} {s : State} {m : MethodId} {args : Array Value} {below : List Frame} {meth : Method} {c : Code} {G : GX} {σ0 : St} {mc ms : Nat} {Q : Int32 → St → Prop} (X : VC p l (rmD 4 mc ms) s m args meth c G 4 mc ms 6 RX12 cX12_allocates) (hr : meth.sig.returnType = (some .int)) (hin : meth.name = yX12_allocates.name) (htr : l.stackTraces = false) : ∀ (f : Nat) (a0 : Nat) (x1 : Int32) (x2 : Int32) (x3 : Int32) (x4 : Int32) (x5 : Int32) (σ : St), w_X12_allocates_13 Q  f a0 x1 x2 x3 x4 x5 σ → V p l e (rmD 4 mc ms) s m args below meth c (MQ below (va_Qi Q (gB G 2 σ0) (GA G)) args s mc ms (GA G)) G 2 σ0 mc ms 6 σ 0 0 [(some a0, 13)] 13 [(0, va_rf (some a0)), (1, .int x1), (2, .int x2), (3, .int x3), (4, .int x4), (5, .int x5)] [] := by
  intro f
  induction f with
  | zero => intro a0 x1 x2 x3 x4 x5 σ hw; exact hw.elim
  | succ f ih =>
    intro a0 x1 x2 x3 x4 x5 σ hw
    unfold w_X12_allocates_13 at hw
    refine v_iload X 5 rfl (gD D_X12_allocates_0 9 rfl) ?_
    refine v_aload_n X 0 rfl (gD D_X12_allocates_0 10 rfl) rfl ?_
    refine v_getR X RX12 TX12 65 13 12 (by decide) rfl gin12 31 1231 RX12 (Or.inl rfl) 0 21 rfl rfl rfl (by decide) lk_fRX12_83 (gD D_X12_allocates_0 11 rfl) (fun o52 eo52 => ?_)
    replace hw := hw o52 eo52
    refine v_iload_n X 1 rfl (gD D_X12_allocates_0 12 rfl) rfl ?_
    obtain ⟨a53, rfl, hw⟩ := hw
    obtain ⟨h54, hw⟩ := hw
    refine v_iald X 0 rfl (by decide) h54 (gD D_X12_allocates_0 13 rfl) ?_
    refine v_icmp_ge X 65 (gD D_X12_allocates_0 14 rfl) (by decide) (fun c55 => ?_) (fun c55 => ?_)
    · replace hw := hw.1 c55
      refine v_aload_n X 0 rfl (gD D_X12_allocates_0 38 rfl) rfl ?_
      refine v_getR X RX12 TX12 65 13 12 (by decide) rfl gin12 29 1229 RX12 (Or.inl rfl) 1 22 rfl rfl rfl (by decide) lk_fRX12_77 (gD D_X12_allocates_0 39 rfl) (fun o56 eo56 => ?_)
      replace hw := hw o56 eo56
      refine v_iload_n X 1 rfl (gD D_X12_allocates_0 40 rfl) rfl ?_
      obtain ⟨a57, rfl, hw⟩ := hw
      obtain ⟨h58, hw⟩ := hw
      refine v_zald X 0 rfl rfl h58 (gD D_X12_allocates_0 41 rfl) ?_
      refine v_if_eq X 86 (gD D_X12_allocates_0 42 rfl) (by decide) (fun c59 => ?_) (fun c59 => ?_)
      · replace hw := hw.1 c59
        refine v_iload_n X 2 rfl (gD D_X12_allocates_0 50 rfl) rfl ?_
        exact v_iret X hr hw (gD D_X12_allocates_0 51 rfl)
      · replace hw := hw.2 c59
        refine v_iload X 4 rfl (gD D_X12_allocates_0 43 rfl) ?_
        refine v_if_eq X 86 (gD D_X12_allocates_0 44 rfl) (by decide) (fun c60 => ?_) (fun c60 => ?_)
        · replace hw := hw.1 c60
          refine v_iload_n X 2 rfl (gD D_X12_allocates_0 50 rfl) rfl ?_
          exact v_iret X hr hw (gD D_X12_allocates_0 51 rfl)
        · replace hw := hw.2 c60
          refine v_aload_n X 0 rfl (gD D_X12_allocates_0 45 rfl) rfl ?_
          refine v_iload_n X 3 rfl (gD D_X12_allocates_0 46 rfl) rfl ?_
          refine v_putI X RX12 TX12 65 13 12 (by decide) rfl gin12 39 1239 tyX12 tyX12_ok nmX12 RX12 (Or.inl rfl) 2 rfl .int (int_fit _) rfl (by decide) (Or.inl rfl) lk_fRX12_203 rfl rfl (gD D_X12_allocates_0 47 rfl) (fun s61 es61 => ?_)
          replace hw := hw s61 es61
          refine v_iconst X 0 (gD D_X12_allocates_0 48 rfl) (by decide) ?_
          exact v_iret X hr hw (gD D_X12_allocates_0 49 rfl)
    · replace hw := hw.2 c55
      refine v_iload_n X 2 rfl (gD D_X12_allocates_0 15 rfl) rfl ?_
      refine v_aload_n X 0 rfl (gD D_X12_allocates_0 16 rfl) rfl ?_
      refine v_iload_n X 1 rfl (gD D_X12_allocates_0 17 rfl) rfl ?_
      refine v_iload X 5 rfl (gD D_X12_allocates_0 18 rfl) ?_
      refine v_callVi X (As := [.int x1, .int x5]) (rest := [.int x2]) (nA := 2) 0 0 0 0 (fun ht => c_X12_holdsFor htr (ht.sub [1] rfl) hw) (Or.inl rfl) 1 (κ := 13) rfl (by decide) (rfl : gCl[12]? = some (RX12, TX12, 65)) lk_vRX12_296 (by decide +kernel) rfl rfl (by simp [rf_cat, ct_i]) (by decide) (by decide) rfl rfl (gD D_X12_allocates_0 19 rfl) (fun x62 s63 hq _ _ => ?_)
      replace hw := hq
      clear hq
      refine v_iadd X (gD D_X12_allocates_0 20 rfl) ?_
      refine v_topi (fun x64 ex64 => ?_)
      replace hw := hw x64 ex64
      refine v_istore_n X [(2, .int x64), (0, va_rf (some a0)), (1, .int x1), (3, .int x3), (4, .int x4), (5, .int x5)] (gD D_X12_allocates_0 21 rfl) rfl (by decide) rfl ?_
      refine v_iload X 4 rfl (gD D_X12_allocates_0 22 rfl) ?_
      refine v_if_ne X 52 (gD D_X12_allocates_0 23 rfl) (by decide) (fun c65 => ?_) (fun c65 => ?_)
      · replace hw := hw.1 c65
        refine v_iconst X 1 (gD D_X12_allocates_0 32 rfl) (by decide) ?_
        refine v_goto X 57 (gD D_X12_allocates_0 33 rfl) (by decide) ?_
        refine v_istore X [(4, .int 1), (2, .int x64), (0, va_rf (some a0)), (1, .int x1), (3, .int x3), (5, .int x5)] (gD D_X12_allocates_0 35 rfl) (by decide) rfl ?_
        refine v_iinc X (x5 + 1) 5 rfl [(5, .int (x5 + 1)), (4, .int 1), (2, .int x64), (0, va_rf (some a0)), (1, .int x1), (3, .int x3)] (gD D_X12_allocates_0 36 rfl) rfl (by decide) rfl ?_
        refine v_goto X 13 (gD D_X12_allocates_0 37 rfl) (by decide) ?_
        exact v_sub [1] [3, 4, 2, 5, 1, 0] rfl rfl (ih a0 x1 x64 x3 1 (x5 + 1) s63 hw)
      · replace hw := hw.2 c65
        refine v_aload_n X 1 rfl (gD D_X12_allocates_0 24 rfl) rfl ?_
        refine v_iconst X 3 (gD D_X12_allocates_0 25 rfl) (by decide) ?_
        refine v_iload_n X 2 rfl (gD D_X12_allocates_0 26 rfl) rfl ?_
        refine v_imul X (gD D_X12_allocates_0 27 rfl) ?_
        refine v_iload X 5 rfl (gD D_X12_allocates_0 28 rfl) ?_
        refine v_iadd X (gD D_X12_allocates_0 29 rfl) ?_
        refine v_callVi X (As := [.int ((3 * x1) + x5)]) (rest := []) (nA := 1) 0 0 0 0 (fun ht => c_X12_lacking htr (ht.sub [1] rfl) hw) (Or.inl rfl) 1 (κ := 13) rfl (by decide) (rfl : gCl[12]? = some (RX12, TX12, 65)) lk_vRX12_290 (by decide +kernel) rfl rfl (by decide) (by decide) (by decide) rfl rfl (gD D_X12_allocates_0 30 rfl) (fun x66 s67 hq _ _ => ?_)
        replace hw := hq
        clear hq
        refine v_if_le X 56 (gD D_X12_allocates_0 31 rfl) (by decide) (fun c68 => ?_) (fun c68 => ?_)
        · replace hw := hw.1 c68
          refine v_iconst X 0 (gD D_X12_allocates_0 34 rfl) (by decide) ?_
          refine v_istore X [(4, .int 0), (2, .int x64), (0, va_rf (some a0)), (1, .int x1), (3, .int x3), (5, .int x5)] (gD D_X12_allocates_0 35 rfl) (by decide) rfl ?_
          refine v_iinc X (x5 + 1) 5 rfl [(5, .int (x5 + 1)), (4, .int 0), (2, .int x64), (0, va_rf (some a0)), (1, .int x1), (3, .int x3)] (gD D_X12_allocates_0 36 rfl) rfl (by decide) rfl ?_
          refine v_goto X 13 (gD D_X12_allocates_0 37 rfl) (by decide) ?_
          exact v_sub [1] [3, 4, 2, 5, 1, 0] rfl rfl (ih a0 x1 x64 x3 0 (x5 + 1) s67 hw)
        · replace hw := hw.2 c68
          refine v_iconst X 1 (gD D_X12_allocates_0 32 rfl) (by decide) ?_
          refine v_goto X 57 (gD D_X12_allocates_0 33 rfl) (by decide) ?_
          refine v_istore X [(4, .int 1), (2, .int x64), (0, va_rf (some a0)), (1, .int x1), (3, .int x3), (5, .int x5)] (gD D_X12_allocates_0 35 rfl) (by decide) rfl ?_
          refine v_iinc X (x5 + 1) 5 rfl [(5, .int (x5 + 1)), (4, .int 1), (2, .int x64), (0, va_rf (some a0)), (1, .int x1), (3, .int x3)] (gD D_X12_allocates_0 36 rfl) rfl (by decide) rfl ?_
          refine v_goto X 13 (gD D_X12_allocates_0 37 rfl) (by decide) ?_
          exact v_sub [1] [3, 4, 2, 5, 1, 0] rfl rfl (ih a0 x1 x64 x3 1 (x5 + 1) s67 hw)
set_option maxRecDepth 100000 in
set_option maxHeartbeats 4000000 in
theorem c_X12_allocates {l : Launch} {G : GX} (htr : l.stackTraces = false) {σ : St} {a0 : Nat} {x1 : Int32} {Q : Int32 → St → Prop} (ht : tvOk σ [(some a0, 13)]) (hw : w_X12_allocates a0 x1 σ Q) : MI l G 2 σ yX12_allocates cX12_allocates 6 (some .int) 4 0 0 [va_rf (some a0), .int x1] Q := by
  unfold w_X12_allocates at hw
  refine m_start RX12 (by decide) htr ht (Nat.le_of_ble_eq_true rfl) rfl (lv := [(0, va_rf (some a0)), (1, .int x1)]) (d := 2) (fun p e s m args below meth c X hr hin => ?_)
  refine v_iconst X 0 (gD D_X12_allocates_0 0 rfl) (by decide) ?_
  refine v_istore_n X [(2, .int 0), (0, va_rf (some a0)), (1, .int x1)] (gD D_X12_allocates_0 1 rfl) rfl (by decide) rfl ?_
  refine v_aload_n X 1 rfl (gD D_X12_allocates_0 2 rfl) rfl ?_
  refine v_getI X RX12 TX12 65 13 12 (by decide) rfl gin12 39 1239 RX12 (Or.inl rfl) 0 rfl rfl (by decide) lk_fRX12_203 (gD D_X12_allocates_0 3 rfl) ?_
  refine v_topi (fun x51 ex51 => ?_)
  replace hw := hw x51 ex51
  refine v_istore_n X [(3, .int x51), (2, .int 0), (0, va_rf (some a0)), (1, .int x1)] (gD D_X12_allocates_0 4 rfl) rfl (by decide) rfl ?_
  refine v_iconst X 0 (gD D_X12_allocates_0 5 rfl) (by decide) ?_
  refine v_istore X [(4, .int 0), (3, .int x51), (2, .int 0), (0, va_rf (some a0)), (1, .int x1)] (gD D_X12_allocates_0 6 rfl) (by decide) rfl ?_
  refine v_iconst X 0 (gD D_X12_allocates_0 7 rfl) (by decide) ?_
  refine v_istore X [(5, .int 0), (4, .int 0), (3, .int x51), (2, .int 0), (0, va_rf (some a0)), (1, .int x1)] (gD D_X12_allocates_0 8 rfl) (by decide) rfl ?_
  obtain ⟨f69, hw⟩ := hw
  exact v_sub [0] [4, 5, 3, 2, 1, 0] rfl rfl (t_X12_allocates_13 X hr hin htr  f69 a0 x1 0 x51 0 0 σ hw)
set_option maxRecDepth 100000 in
set_option maxHeartbeats 4000000 in
theorem t_X12_goesTo_65 {p : Program} {l : Launch} {e : Env} {s : State} {m : MethodId} {args : Array Value} {below : List Frame} {meth : Method} {c : Code} {G : GX} {σ0 : St} {mc ms : Nat} {Q : St → Prop} (X : VC p l (rmD 4 mc ms) s m args meth c G 4 mc ms 6 RX12 cX12_goesTo) (hr : meth.sig.returnType = none) (hin : meth.name = yX12_goesTo.name) (htr : l.stackTraces = false) : ∀ (os0 : Option Nat) (xs1 : Int32) (xs2 : Int32) (xs3 : Int32) (σ : St), w_X12_goesTo_65 Q  os0 xs1 xs2 xs3 σ → V p l e (rmD 4 mc ms) s m args below meth c (MQ below (va_Qv Q (gB G 2 σ0) (GA G)) args s mc ms (GA G)) G 2 σ0 mc ms 6 σ 0 0 [(os0, 21)] 65 [] [.int xs3, .int xs2, .int xs1, va_rf os0] := by
  intro os0 xs1 xs2 xs3 σ hw
  unfold w_X12_goesTo_65 at hw
  refine v_iadd X (gD D_X12_goesTo_0 38 rfl) ?_
  obtain ⟨a83, rfl, hw⟩ := hw
  obtain ⟨h84, hw⟩ := hw
  refine v_iast X 0 rfl (by decide) (Or.inl rfl) h84 (gD D_X12_goesTo_0 39 rfl) (fun s85 es85 => ?_)
  replace hw := hw s85 es85
  refine v_goto X 106 (gD D_X12_goesTo_0 40 rfl) (by decide) ?_
  exact v_vret X hr hw (gD D_X12_goesTo_0 62 rfl)
set_option maxRecDepth 100000 in
set_option maxHeartbeats 4000000 in
theorem c_X12_goesTo {l : Launch} {G : GX} (htr : l.stackTraces = false) {σ : St} {a0 : Nat} {x1 : Int32} {x2 : Int32} {x3 : Int32} {Q : St → Prop} (ht : tvOk σ [(some a0, 13)]) (hw : w_X12_goesTo a0 x1 x2 x3 σ Q) : MV l G 2 σ yX12_goesTo cX12_goesTo 6 4 0 0 [va_rf (some a0), .int x1, .int x2, .int x3] Q := by
  unfold w_X12_goesTo at hw
  refine m_start RX12 (by decide) htr ht (Nat.le_of_ble_eq_true rfl) rfl (lv := [(0, va_rf (some a0)), (1, .int x1), (2, .int x2), (3, .int x3)]) (d := 2) (fun p e s m args below meth c X hr hin => ?_)
  refine v_iload_n X 3 rfl (gD D_X12_goesTo_0 0 rfl) rfl ?_
  refine v_bipush X 6 (gD D_X12_goesTo_0 1 rfl) (by decide) ?_
  refine v_idiv X (gD D_X12_goesTo_0 2 rfl) (by decide) ?_
  refine v_topi (fun x51 ex51 => ?_)
  replace hw := hw x51 ex51
  refine v_istore X [(4, .int x51), (0, va_rf (some a0)), (1, .int x1), (2, .int x2), (3, .int x3)] (gD D_X12_goesTo_0 3 rfl) (by decide) rfl ?_
  refine v_iload_n X 4 rfl (gD D_X12_goesTo_0 4 rfl) rfl ?_
  refine v_bipush X 6 (gD D_X12_goesTo_0 5 rfl) (by decide) ?_
  refine v_irem X (gD D_X12_goesTo_0 6 rfl) (by decide) ?_
  refine v_topi (fun x52 ex52 => ?_)
  replace hw := hw x52 ex52
  refine v_istore X [(5, .int x52), (4, .int x51), (0, va_rf (some a0)), (1, .int x1), (2, .int x2), (3, .int x3)] (gD D_X12_goesTo_0 7 rfl) (by decide) rfl ?_
  refine v_aload_n X 2 rfl (gD D_X12_goesTo_0 8 rfl) rfl ?_
  refine v_getR X RX12 TX12 65 13 12 (by decide) rfl gin12 55 1255 RX12 (Or.inl rfl) 0 21 rfl rfl rfl (by decide) lk_fRX12_149 (gD D_X12_goesTo_0 9 rfl) (fun o53 eo53 => ?_)
  replace hw := hw o53 eo53
  refine v_iload_n X 3 rfl (gD D_X12_goesTo_0 10 rfl) rfl ?_
  obtain ⟨a54, rfl, hw⟩ := hw
  obtain ⟨h55, hw⟩ := hw
  refine v_iald X 0 rfl (by decide) h55 (gD D_X12_goesTo_0 11 rfl) ?_
  refine v_iload X 1 rfl (gD D_X12_goesTo_0 12 rfl) ?_
  refine v_icmp_ne X 70 (gD D_X12_goesTo_0 13 rfl) (by decide) (fun c56 => ?_) (fun c56 => ?_)
  · replace hw := hw.1 c56
    refine v_aload_n X 2 rfl (gD D_X12_goesTo_0 41 rfl) rfl ?_
    refine v_iload_n X 3 rfl (gD D_X12_goesTo_0 42 rfl) rfl ?_
    refine v_iload X 1 rfl (gD D_X12_goesTo_0 43 rfl) ?_
    refine v_callVi X (As := [.int x1, .int x51]) (rest := []) (nA := 2) 0 0 0 0 (fun ht => c_X12_isHeldByOther htr (ht.sub [1] rfl) hw) (Or.inl rfl) 1 (κ := 13) rfl (by decide) (rfl : gCl[12]? = some (RX12, TX12, 65)) lk_vRX12_331 (by decide +kernel) rfl rfl (by decide) (by decide) (by decide) rfl rfl (gD D_X12_goesTo_0 44 rfl) (fun x57 s58 hq _ _ => ?_)
    replace hw := hq
    clear hq
    refine v_if_eq X 91 (gD D_X12_goesTo_0 45 rfl) (by decide) (fun c59 => ?_) (fun c59 => ?_)
    · replace hw := hw.1 c59
      refine v_aload_n X 2 rfl (gD D_X12_goesTo_0 52 rfl) rfl ?_
      refine v_getR X RX12 TX12 65 13 12 (by decide) rfl gin12 55 1255 RX12 (Or.inl rfl) 1 21 rfl rfl rfl (by decide) lk_fRX12_149 (gD D_X12_goesTo_0 53 rfl) (fun o60 eo60 => ?_)
      replace hw := hw o60 eo60
      refine v_iload_n X 3 rfl (gD D_X12_goesTo_0 54 rfl) rfl ?_
      refine v_iload X 1 rfl (gD D_X12_goesTo_0 55 rfl) ?_
      obtain ⟨a61, rfl, hw⟩ := hw
      obtain ⟨h62, hw⟩ := hw
      refine v_iast X 0 rfl (by decide) (Or.inl rfl) h62 (gD D_X12_goesTo_0 56 rfl) (fun s63 es63 => ?_)
      replace hw := hw s63 es63
      refine v_aload_n X 2 rfl (gD D_X12_goesTo_0 57 rfl) rfl ?_
      refine v_getR X RX12 TX12 65 13 12 (by decide) rfl gin12 56 1256 RX12 (Or.inl rfl) 2 21 rfl rfl rfl (by decide) lk_fRX12_152 (gD D_X12_goesTo_0 58 rfl) (fun o64 eo64 => ?_)
      replace hw := hw o64 eo64
      refine v_iload_n X 3 rfl (gD D_X12_goesTo_0 59 rfl) rfl ?_
      refine v_iconst X 0 (gD D_X12_goesTo_0 60 rfl) (by decide) ?_
      obtain ⟨a65, rfl, hw⟩ := hw
      obtain ⟨h66, hw⟩ := hw
      refine v_iast X 0 rfl (by decide) (Or.inl rfl) h66 (gD D_X12_goesTo_0 61 rfl) (fun s67 es67 => ?_)
      replace hw := hw s67 es67
      exact v_vret X hr hw (gD D_X12_goesTo_0 62 rfl)
    · replace hw := hw.2 c59
      refine v_aload_n X 2 rfl (gD D_X12_goesTo_0 46 rfl) rfl ?_
      refine v_getR X RX12 TX12 65 13 12 (by decide) rfl gin12 57 1257 RX12 (Or.inl rfl) 1 21 rfl rfl rfl (by decide) lk_fRX12_155 (gD D_X12_goesTo_0 47 rfl) (fun o68 eo68 => ?_)
      replace hw := hw o68 eo68
      refine v_iload_n X 3 rfl (gD D_X12_goesTo_0 48 rfl) rfl ?_
      refine v_iload X 1 rfl (gD D_X12_goesTo_0 49 rfl) ?_
      obtain ⟨a69, rfl, hw⟩ := hw
      obtain ⟨h70, hw⟩ := hw
      refine v_iast X 0 rfl (by decide) (Or.inl rfl) h70 (gD D_X12_goesTo_0 50 rfl) (fun s71 es71 => ?_)
      replace hw := hw s71 es71
      refine v_goto X 106 (gD D_X12_goesTo_0 51 rfl) (by decide) ?_
      exact v_vret X hr hw (gD D_X12_goesTo_0 62 rfl)
  · replace hw := hw.2 c56
    refine v_aload_n X 2 rfl (gD D_X12_goesTo_0 14 rfl) rfl ?_
    refine v_getR X RX12 TX12 65 13 12 (by decide) rfl gin12 56 1256 RX12 (Or.inl rfl) 1 21 rfl rfl rfl (by decide) lk_fRX12_152 (gD D_X12_goesTo_0 15 rfl) (fun o72 eo72 => ?_)
    replace hw := hw o72 eo72
    refine v_iload_n X 3 rfl (gD D_X12_goesTo_0 16 rfl) rfl ?_
    obtain ⟨a73, rfl, hw⟩ := hw
    obtain ⟨h74, hw⟩ := hw
    refine v_iald X 0 rfl (by decide) h74 (gD D_X12_goesTo_0 17 rfl) ?_
    refine v_iload X 0 rfl (gD D_X12_goesTo_0 18 rfl) ?_
    refine v_icmp_ne X 42 (gD D_X12_goesTo_0 19 rfl) (by decide) (fun c75 => ?_) (fun c75 => ?_)
    · replace hw := hw.1 c75
      refine v_aload_n X 2 rfl (gD D_X12_goesTo_0 24 rfl) rfl ?_
      refine v_getR X RX12 TX12 65 13 12 (by decide) rfl gin12 56 1256 RX12 (Or.inl rfl) 2 21 rfl rfl rfl (by decide) lk_fRX12_152 (gD D_X12_goesTo_0 25 rfl) (fun o76 eo76 => ?_)
      replace hw := hw o76 eo76
      refine v_iload_n X 3 rfl (gD D_X12_goesTo_0 26 rfl) rfl ?_
      refine v_dup2 X (gD D_X12_goesTo_0 27 rfl) rfl (rf_cat _) ?_
      obtain ⟨a77, rfl, hw⟩ := hw
      obtain ⟨h78, hw⟩ := hw
      refine v_iald X 0 rfl (by decide) h78 (gD D_X12_goesTo_0 28 rfl) ?_
      refine v_aload_n X 2 rfl (gD D_X12_goesTo_0 29 rfl) rfl ?_
      refine v_getR X RX12 TX12 65 13 12 (by decide) rfl gin12 56 1256 RX12 (Or.inl rfl) 3 21 rfl rfl rfl (by decide) lk_fRX12_152 (gD D_X12_goesTo_0 30 rfl) (fun o79 eo79 => ?_)
      replace hw := hw o79 eo79
      refine v_iload_n X 3 rfl (gD D_X12_goesTo_0 31 rfl) rfl ?_
      obtain ⟨a80, rfl, hw⟩ := hw
      obtain ⟨h81, hw⟩ := hw
      refine v_iald X 0 rfl (by decide) h81 (gD D_X12_goesTo_0 32 rfl) ?_
      refine v_iload X 0 rfl (gD D_X12_goesTo_0 33 rfl) ?_
      refine v_icmp_ge X 64 (gD D_X12_goesTo_0 34 rfl) (by decide) (fun c82 => ?_) (fun c82 => ?_)
      · replace hw := hw.1 c82
        refine v_iconst X (-1) (gD D_X12_goesTo_0 37 rfl) (by decide) ?_
        exact v_sub [1] [] rfl rfl (t_X12_goesTo_65 X hr hin htr  (some a77) x1 (sA σ a77 x1.toNatClampNeg) (-1) σ hw)
      · replace hw := hw.2 c82
        refine v_iconst X 1 (gD D_X12_goesTo_0 35 rfl) (by decide) ?_
        refine v_goto X 65 (gD D_X12_goesTo_0 36 rfl) (by decide) ?_
        exact v_sub [1] [] rfl rfl (t_X12_goesTo_65 X hr hin htr  (some a77) x1 (sA σ a77 x1.toNatClampNeg) 1 σ hw)
    · replace hw := hw.2 c75
      refine v_aload_n X 2 rfl (gD D_X12_goesTo_0 20 rfl) rfl ?_
      refine v_iload_n X 4 rfl (gD D_X12_goesTo_0 21 rfl) rfl ?_
      refine v_callVv X (As := [.int x2]) (rest := []) (nA := 1) 0 0 0 0 (fun ht => c_X12_does htr (ht.sub [2] rfl) hw) (Or.inl rfl) 2 (κ := 13) rfl (by decide) (rfl : gCl[12]? = some (RX12, TX12, 65)) lk_vRX12_327 (by decide +kernel) rfl rfl (by decide) (by decide) (by decide) rfl rfl (gD D_X12_goesTo_0 22 rfl) (fun s87 hq _ _ => ?_)
      replace hw := hq
      clear hq
      refine v_goto X 106 (gD D_X12_goesTo_0 23 rfl) (by decide) ?_
      exact v_vret X hr hw (gD D_X12_goesTo_0 62 rfl)
set_option maxRecDepth 100000 in
set_option maxHeartbeats 4000000 in
theorem t_X12_refill_9 {p : Program} {l : Launch} {e : Env} {s : State} {m : MethodId} {args : Array Value} {below : List Frame} {meth : Method} {c : Code} {G : GX} {σ0 : St} {mc ms : Nat} {Q : Int32 → St → Prop} (X : VC p l (rmD 4 mc ms) s m args meth c G 4 mc ms 3 RX12 cX12_refill) (hr : meth.sig.returnType = (some .int)) (hin : meth.name = yX12_refill.name) (htr : l.stackTraces = false) : ∀ (f : Nat) (a0 : Nat) (x1 : Int32) (x2 : Int32) (σ : St), w_X12_refill_9 Q  f a0 x1 x2 σ → V p l e (rmD 4 mc ms) s m args below meth c (MQ below (va_Qi Q (gB G 2 σ0) (GA G)) args s mc ms (GA G)) G 2 σ0 mc ms 3 σ 0 0 [(some a0, 13)] 9 [(0, va_rf (some a0)), (1, .int x1), (2, .int x2)] [] := by
  intro f
  induction f with
  | zero => intro a0 x1 x2 σ hw; exact hw.elim
  | succ f ih =>
    intro a0 x1 x2 σ hw
    unfold w_X12_refill_9 at hw
    refine v_iload_n X 2 rfl (gD D_X12_refill_0 7 rfl) rfl ?_
    refine v_bipush X 18 (gD D_X12_refill_0 8 rfl) (by decide) ?_
    refine v_icmp_ge X 47 (gD D_X12_refill_0 9 rfl) (by decide) (fun c52 => ?_) (fun c52 => ?_)
    · replace hw := hw.1 c52
      refine v_iload_n X 1 rfl (gD D_X12_refill_0 28 rfl) rfl ?_
      exact v_iret X hr hw (gD D_X12_refill_0 29 rfl)
    · replace hw := hw.2 c52
      refine v_iload_n X 1 rfl (gD D_X12_refill_0 10 rfl) rfl ?_
      refine v_aload_n X 0 rfl (gD D_X12_refill_0 11 rfl) rfl ?_
      refine v_getR X RX12 TX12 65 13 12 (by decide) rfl gin12 6 1206 RX12 (Or.inl rfl) 0 21 rfl rfl rfl (by decide) lk_fRX12_16 (gD D_X12_refill_0 12 rfl) (fun o53 eo53 => ?_)
      replace hw := hw o53 eo53
      refine v_iload_n X 2 rfl (gD D_X12_refill_0 13 rfl) rfl ?_
      obtain ⟨a54, rfl, hw⟩ := hw
      obtain ⟨h55, hw⟩ := hw
      refine v_iald X 0 rfl (by decide) h55 (gD D_X12_refill_0 14 rfl) ?_
      refine v_iconst X (-1) (gD D_X12_refill_0 15 rfl) (by decide) ?_
      refine v_icmp_eq X 38 (gD D_X12_refill_0 16 rfl) (by decide) (fun c56 => ?_) (fun c56 => ?_)
      · replace hw := hw.1 c56
        refine v_iconst X 0 (gD D_X12_refill_0 23 rfl) (by decide) ?_
        refine v_iadd X (gD D_X12_refill_0 24 rfl) ?_
        refine v_topi (fun x57 ex57 => ?_)
        replace hw := hw x57 ex57
        refine v_istore_n X [(1, .int x57), (0, va_rf (some a0)), (2, .int x2)] (gD D_X12_refill_0 25 rfl) rfl (by decide) rfl ?_
        refine v_iinc X (x2 + 1) 2 rfl [(2, .int (x2 + 1)), (1, .int x57), (0, va_rf (some a0))] (gD D_X12_refill_0 26 rfl) rfl (by decide) rfl ?_
        refine v_goto X 9 (gD D_X12_refill_0 27 rfl) (by decide) ?_
        exact v_sub [1] [2, 1, 0] rfl rfl (ih a0 x57 (x2 + 1) σ hw)
      · replace hw := hw.2 c56
        refine v_aload_n X 0 rfl (gD D_X12_refill_0 17 rfl) rfl ?_
        refine v_iload_n X 2 rfl (gD D_X12_refill_0 18 rfl) rfl ?_
        refine v_callVi X (As := [.int x2]) (rest := [.int x1]) (nA := 1) 0 0 0 0 (fun ht => c_X12_refills htr (ht.sub [1] rfl) hw) (Or.inl rfl) 1 (κ := 13) rfl (by decide) (rfl : gCl[12]? = some (RX12, TX12, 65)) lk_vRX12_284 (by decide +kernel) rfl rfl (by simp [rf_cat, ct_i]) (by decide) (by decide) rfl rfl (gD D_X12_refill_0 19 rfl) (fun x58 s59 hq _ _ => ?_)
        replace hw := hq
        clear hq
        refine v_if_eq X 38 (gD D_X12_refill_0 20 rfl) (by decide) (fun c60 => ?_) (fun c60 => ?_)
        · replace hw := hw.1 c60
          refine v_iconst X 0 (gD D_X12_refill_0 23 rfl) (by decide) ?_
          refine v_iadd X (gD D_X12_refill_0 24 rfl) ?_
          refine v_topi (fun x61 ex61 => ?_)
          replace hw := hw x61 ex61
          refine v_istore_n X [(1, .int x61), (0, va_rf (some a0)), (2, .int x2)] (gD D_X12_refill_0 25 rfl) rfl (by decide) rfl ?_
          refine v_iinc X (x2 + 1) 2 rfl [(2, .int (x2 + 1)), (1, .int x61), (0, va_rf (some a0))] (gD D_X12_refill_0 26 rfl) rfl (by decide) rfl ?_
          refine v_goto X 9 (gD D_X12_refill_0 27 rfl) (by decide) ?_
          exact v_sub [1] [2, 1, 0] rfl rfl (ih a0 x61 (x2 + 1) s59 hw)
        · replace hw := hw.2 c60
          refine v_iconst X 1 (gD D_X12_refill_0 21 rfl) (by decide) ?_
          refine v_goto X 39 (gD D_X12_refill_0 22 rfl) (by decide) ?_
          refine v_iadd X (gD D_X12_refill_0 24 rfl) ?_
          refine v_topi (fun x62 ex62 => ?_)
          replace hw := hw x62 ex62
          refine v_istore_n X [(1, .int x62), (0, va_rf (some a0)), (2, .int x2)] (gD D_X12_refill_0 25 rfl) rfl (by decide) rfl ?_
          refine v_iinc X (x2 + 1) 2 rfl [(2, .int (x2 + 1)), (1, .int x62), (0, va_rf (some a0))] (gD D_X12_refill_0 26 rfl) rfl (by decide) rfl ?_
          refine v_goto X 9 (gD D_X12_refill_0 27 rfl) (by decide) ?_
          exact v_sub [1] [2, 1, 0] rfl rfl (ih a0 x62 (x2 + 1) s59 hw)
set_option maxRecDepth 100000 in
set_option maxHeartbeats 4000000 in
theorem c_X12_refill {l : Launch} {G : GX} (htr : l.stackTraces = false) {σ : St} {a0 : Nat} {Q : Int32 → St → Prop} (ht : tvOk σ [(some a0, 13)]) (hw : w_X12_refill a0 σ Q) : MI l G 2 σ yX12_refill cX12_refill 3 (some .int) 4 0 0 [va_rf (some a0)] Q := by
  unfold w_X12_refill at hw
  refine m_start RX12 (by decide) htr ht (Nat.le_of_ble_eq_true rfl) rfl (lv := [(0, va_rf (some a0))]) (d := 2) (fun p e s m args below meth c X hr hin => ?_)
  refine v_aload_n X 0 rfl (gD D_X12_refill_0 0 rfl) rfl ?_
  refine v_iconst X 0 (gD D_X12_refill_0 1 rfl) (by decide) ?_
  refine v_putI X RX12 TX12 65 13 12 (by decide) rfl gin12 0 1200 tyX12 tyX12_ok nmX12 RX12 (Or.inl rfl) 0 rfl .int (int_fit _) rfl (by decide) (Or.inl rfl) lk_fRX12_179 rfl rfl (gD D_X12_refill_0 2 rfl) (fun s51 es51 => ?_)
  replace hw := hw s51 es51
  refine v_iconst X 0 (gD D_X12_refill_0 3 rfl) (by decide) ?_
  refine v_istore_n X [(1, .int 0), (0, va_rf (some a0))] (gD D_X12_refill_0 4 rfl) rfl (by decide) rfl ?_
  refine v_iconst X 0 (gD D_X12_refill_0 5 rfl) (by decide) ?_
  refine v_istore_n X [(2, .int 0), (1, .int 0), (0, va_rf (some a0))] (gD D_X12_refill_0 6 rfl) rfl (by decide) rfl ?_
  obtain ⟨f63, hw⟩ := hw
  exact v_sub [0] [2, 1, 0] rfl rfl (t_X12_refill_9 X hr hin htr  f63 a0 0 0 s51 hw)
set_option maxRecDepth 100000 in
set_option maxHeartbeats 4000000 in
theorem t_X12_slotFor_162 {p : Program} {l : Launch} {e : Env} {s : State} {m : MethodId} {args : Array Value} {below : List Frame} {meth : Method} {c : Code} {G : GX} {σ0 : St} {mc ms : Nat} {Q : Int32 → St → Prop} (X : VC p l (rmD 4 mc ms) s m args meth c G 4 mc ms 11 RX12 cX12_slotFor) (hr : meth.sig.returnType = (some .int)) (hin : meth.name = yX12_slotFor.name) (htr : l.stackTraces = false) {K16 : Nat → Int32 → Int32 → Int32 → Int32 → Int32 → Int32 → St → Prop} (hK16 : ∀ (a0 : Nat) (x1 : Int32) (x2 : Int32) (x3 : Int32) (x4 : Int32) (x5 : Int32) (x6 : Int32) (σ : St), K16 a0 x1 x2 x3 x4 x5 x6 σ → V p l e (rmD 4 mc ms) s m args below meth c (MQ below (va_Qi Q (gB G 2 σ0) (GA G)) args s mc ms (GA G)) G 2 σ0 mc ms 11 σ 0 0 [(some a0, 13)] 16 [(0, va_rf (some a0)), (1, .int x1), (2, .int x2), (3, .int x3), (4, .int x4), (5, .int x5), (6, .int x6)] []) : ∀ (a0 : Nat) (x1 : Int32) (x2 : Int32) (x4 : Int32) (x5 : Int32) (x6 : Int32) (x10 : Int32) (xs0 : Int32) (σ : St), w_X12_slotFor_162 Q K16 a0 x1 x2 x4 x5 x6 x10 xs0 σ → V p l e (rmD 4 mc ms) s m args below meth c (MQ below (va_Qi Q (gB G 2 σ0) (GA G)) args s mc ms (GA G)) G 2 σ0 mc ms 11 σ 0 0 [(some a0, 13)] 162 [(0, va_rf (some a0)), (1, .int x1), (2, .int x2), (4, .int x4), (5, .int x5), (6, .int x6), (10, .int x10)] [.int xs0] := by
  intro a0 x1 x2 x4 x5 x6 x10 xs0 σ hw
  unfold w_X12_slotFor_162 at hw
  refine v_istore_n X [(3, .int xs0), (0, va_rf (some a0)), (1, .int x1), (2, .int x2), (4, .int x4), (5, .int x5), (6, .int x6), (10, .int x10)] (gD D_X12_slotFor_0 87 rfl) rfl (by decide) rfl ?_
  refine v_iload_n X 0 rfl (gD D_X12_slotFor_0 88 rfl) rfl ?_
  refine v_iload X 6 rfl (gD D_X12_slotFor_0 89 rfl) ?_
  refine v_icmp_ne X 174 (gD D_X12_slotFor_0 90 rfl) (by decide) (fun c71 => ?_) (fun c71 => ?_)
  · replace hw := hw.1 c71
    refine v_iload X 4 rfl (gD D_X12_slotFor_0 93 rfl) ?_
    refine v_istore X [(4, .int x4), (3, .int xs0), (0, va_rf (some a0)), (1, .int x1), (2, .int x2), (5, .int x5), (6, .int x6), (10, .int x10)] (gD D_X12_slotFor_0 94 rfl) (by decide) rfl ?_
    refine v_iinc X (x6 + 1) 6 rfl [(6, .int (x6 + 1)), (4, .int x4), (3, .int xs0), (0, va_rf (some a0)), (1, .int x1), (2, .int x2), (5, .int x5), (10, .int x10)] (gD D_X12_slotFor_0 95 rfl) rfl (by decide) rfl ?_
    refine v_goto X 16 (gD D_X12_slotFor_0 96 rfl) (by decide) ?_
    exact v_sub [0] [3, 4, 5, 2, 1, 6, 0] rfl rfl (hK16 a0 x1 x2 xs0 x4 x5 (x6 + 1) σ hw)
  · replace hw := hw.2 c71
    refine v_iload X 7 rfl (gD D_X12_slotFor_0 91 rfl) ?_
    refine v_goto X 176 (gD D_X12_slotFor_0 92 rfl) (by decide) ?_
    refine v_istore X [(4, .int x10), (3, .int xs0), (0, va_rf (some a0)), (1, .int x1), (2, .int x2), (5, .int x5), (6, .int x6), (10, .int x10)] (gD D_X12_slotFor_0 94 rfl) (by decide) rfl ?_
    refine v_iinc X (x6 + 1) 6 rfl [(6, .int (x6 + 1)), (4, .int x10), (3, .int xs0), (0, va_rf (some a0)), (1, .int x1), (2, .int x2), (5, .int x5), (10, .int x10)] (gD D_X12_slotFor_0 95 rfl) rfl (by decide) rfl ?_
    refine v_goto X 16 (gD D_X12_slotFor_0 96 rfl) (by decide) ?_
    exact v_sub [0] [3, 4, 5, 2, 1, 6, 0] rfl rfl (hK16 a0 x1 x2 xs0 x10 x5 (x6 + 1) σ hw)
set_option maxRecDepth 100000 in
set_option maxHeartbeats 4000000 in
theorem t_X12_slotFor_161 {p : Program} {l : Launch} {e : Env} {s : State} {m : MethodId} {args : Array Value} {below : List Frame} {meth : Method} {c : Code} {G : GX} {σ0 : St} {mc ms : Nat} {Q : Int32 → St → Prop} (X : VC p l (rmD 4 mc ms) s m args meth c G 4 mc ms 11 RX12 cX12_slotFor) (hr : meth.sig.returnType = (some .int)) (hin : meth.name = yX12_slotFor.name) (htr : l.stackTraces = false) {K16 : Nat → Int32 → Int32 → Int32 → Int32 → Int32 → Int32 → St → Prop} (hK16 : ∀ (a0 : Nat) (x1 : Int32) (x2 : Int32) (x3 : Int32) (x4 : Int32) (x5 : Int32) (x6 : Int32) (σ : St), K16 a0 x1 x2 x3 x4 x5 x6 σ → V p l e (rmD 4 mc ms) s m args below meth c (MQ below (va_Qi Q (gB G 2 σ0) (GA G)) args s mc ms (GA G)) G 2 σ0 mc ms 11 σ 0 0 [(some a0, 13)] 16 [(0, va_rf (some a0)), (1, .int x1), (2, .int x2), (3, .int x3), (4, .int x4), (5, .int x5), (6, .int x6)] []) : ∀ (a0 : Nat) (x1 : Int32) (x2 : Int32) (x3 : Int32) (x4 : Int32) (x5 : Int32) (x6 : Int32) (x10 : Int32) (σ : St), w_X12_slotFor_161 Q K16 a0 x1 x2 x3 x4 x5 x6 x10 σ → V p l e (rmD 4 mc ms) s m args below meth c (MQ below (va_Qi Q (gB G 2 σ0) (GA G)) args s mc ms (GA G)) G 2 σ0 mc ms 11 σ 0 0 [(some a0, 13)] 161 [(0, va_rf (some a0)), (1, .int x1), (2, .int x2), (3, .int x3), (4, .int x4), (5, .int x5), (6, .int x6), (10, .int x10)] [] := by
  intro a0 x1 x2 x3 x4 x5 x6 x10 σ hw
  unfold w_X12_slotFor_161 at hw
  refine v_iload_n X 3 rfl (gD D_X12_slotFor_0 86 rfl) rfl ?_
  exact v_sub [0] [0, 1, 2, 4, 5, 6, 7] rfl rfl (t_X12_slotFor_162 X hr hin htr hK16 a0 x1 x2 x4 x5 x6 x10 x3 σ hw)
set_option maxRecDepth 100000 in
set_option maxHeartbeats 4000000 in
theorem t_X12_slotFor_126 {p : Program} {l : Launch} {e : Env} {s : State} {m : MethodId} {args : Array Value} {below : List Frame} {meth : Method} {c : Code} {G : GX} {σ0 : St} {mc ms : Nat} {Q : Int32 → St → Prop} (X : VC p l (rmD 4 mc ms) s m args meth c G 4 mc ms 11 RX12 cX12_slotFor) (hr : meth.sig.returnType = (some .int)) (hin : meth.name = yX12_slotFor.name) (htr : l.stackTraces = false) {K16 : Nat → Int32 → Int32 → Int32 → Int32 → Int32 → Int32 → St → Prop} (hK16 : ∀ (a0 : Nat) (x1 : Int32) (x2 : Int32) (x3 : Int32) (x4 : Int32) (x5 : Int32) (x6 : Int32) (σ : St), K16 a0 x1 x2 x3 x4 x5 x6 σ → V p l e (rmD 4 mc ms) s m args below meth c (MQ below (va_Qi Q (gB G 2 σ0) (GA G)) args s mc ms (GA G)) G 2 σ0 mc ms 11 σ 0 0 [(some a0, 13)] 16 [(0, va_rf (some a0)), (1, .int x1), (2, .int x2), (3, .int x3), (4, .int x4), (5, .int x5), (6, .int x6)] []) : ∀ (a0 : Nat) (x1 : Int32) (x2 : Int32) (x3 : Int32) (x4 : Int32) (x5 : Int32) (x6 : Int32) (x7 : Int32) (x8 : Int32) (xs0 : Int32) (σ : St), w_X12_slotFor_126 Q K16 a0 x1 x2 x3 x4 x5 x6 x7 x8 xs0 σ → V p l e (rmD 4 mc ms) s m args below meth c (MQ below (va_Qi Q (gB G 2 σ0) (GA G)) args s mc ms (GA G)) G 2 σ0 mc ms 11 σ 0 0 [(some a0, 13)] 126 [(0, va_rf (some a0)), (1, .int x1), (2, .int x2), (3, .int x3), (4, .int x4), (5, .int x5), (6, .int x6), (7, .int x7), (8, .int x8)] [.int xs0] := by
  intro a0 x1 x2 x3 x4 x5 x6 x7 x8 xs0 σ hw
  unfold w_X12_slotFor_126 at hw
  refine v_istore X [(9, .int xs0), (0, va_rf (some a0)), (1, .int x1), (2, .int x2), (3, .int x3), (4, .int x4), (5, .int x5), (6, .int x6), (7, .int x7), (8, .int x8)] (gD D_X12_slotFor_0 69 rfl) (by decide) rfl ?_
  refine v_sipush X 1000 (gD D_X12_slotFor_0 70 rfl) (by decide) ?_
  refine v_iload X 0 rfl (gD D_X12_slotFor_0 71 rfl) ?_
  refine v_imul X (gD D_X12_slotFor_0 72 rfl) ?_
  refine v_iload X 8 rfl (gD D_X12_slotFor_0 73 rfl) ?_
  refine v_iadd X (gD D_X12_slotFor_0 74 rfl) ?_
  refine v_topi (fun x69 ex69 => ?_)
  replace hw := hw x69 ex69
  refine v_istore X [(10, .int x69), (9, .int xs0), (0, va_rf (some a0)), (1, .int x1), (2, .int x2), (3, .int x3), (4, .int x4), (5, .int x5), (6, .int x6), (7, .int x7), (8, .int x8)] (gD D_X12_slotFor_0 75 rfl) (by decide) rfl ?_
  refine v_iload X 10 rfl (gD D_X12_slotFor_0 76 rfl) ?_
  refine v_if_eq X 161 (gD D_X12_slotFor_0 77 rfl) (by decide) (fun c70 => ?_) (fun c70 => ?_)
  · replace hw := hw.1 c70
    exact v_sub [0] [2, 3, 4, 5, 6, 7, 8, 0] rfl rfl (t_X12_slotFor_161 X hr hin htr hK16 a0 x1 x2 x3 x4 x5 x6 x69 σ hw)
  · replace hw := hw.2 c70
    refine v_iload_n X 5 rfl (gD D_X12_slotFor_0 78 rfl) rfl ?_
    refine v_iconst X (-1) (gD D_X12_slotFor_0 79 rfl) (by decide) ?_
    refine v_icmp_eq X 156 (gD D_X12_slotFor_0 80 rfl) (by decide) (fun c72 => ?_) (fun c72 => ?_)
    · replace hw := hw.1 c72
      refine v_iload X 8 rfl (gD D_X12_slotFor_0 84 rfl) ?_
      refine v_goto X 162 (gD D_X12_slotFor_0 85 rfl) (by decide) ?_
      exact v_sub [0] [2, 3, 4, 6, 7, 8, 0] rfl rfl (t_X12_slotFor_162 X hr hin htr hK16 a0 x1 x2 x4 x5 x6 x69 x6 σ hw)
    · replace hw := hw.2 c72
      refine v_iload X 0 rfl (gD D_X12_slotFor_0 81 rfl) ?_
      refine v_iload X 6 rfl (gD D_X12_slotFor_0 82 rfl) ?_
      refine v_icmp_ge X 161 (gD D_X12_slotFor_0 83 rfl) (by decide) (fun c73 => ?_) (fun c73 => ?_)
      · replace hw := hw.1 c73
        exact v_sub [0] [2, 3, 4, 5, 6, 7, 8, 0] rfl rfl (t_X12_slotFor_161 X hr hin htr hK16 a0 x1 x2 x3 x4 x5 x6 x69 σ hw)
      · replace hw := hw.2 c73
        refine v_iload X 8 rfl (gD D_X12_slotFor_0 84 rfl) ?_
        refine v_goto X 162 (gD D_X12_slotFor_0 85 rfl) (by decide) ?_
        exact v_sub [0] [2, 3, 4, 6, 7, 8, 0] rfl rfl (t_X12_slotFor_162 X hr hin htr hK16 a0 x1 x2 x4 x5 x6 x69 x6 σ hw)
set_option maxRecDepth 100000 in
set_option maxHeartbeats 4000000 in
theorem t_X12_slotFor_89 {p : Program} {l : Launch} {e : Env} {s : State} {m : MethodId} {args : Array Value} {below : List Frame} {meth : Method} {c : Code} {G : GX} {σ0 : St} {mc ms : Nat} {Q : Int32 → St → Prop} (X : VC p l (rmD 4 mc ms) s m args meth c G 4 mc ms 11 RX12 cX12_slotFor) (hr : meth.sig.returnType = (some .int)) (hin : meth.name = yX12_slotFor.name) (htr : l.stackTraces = false) {K16 : Nat → Int32 → Int32 → Int32 → Int32 → Int32 → Int32 → St → Prop} (hK16 : ∀ (a0 : Nat) (x1 : Int32) (x2 : Int32) (x3 : Int32) (x4 : Int32) (x5 : Int32) (x6 : Int32) (σ : St), K16 a0 x1 x2 x3 x4 x5 x6 σ → V p l e (rmD 4 mc ms) s m args below meth c (MQ below (va_Qi Q (gB G 2 σ0) (GA G)) args s mc ms (GA G)) G 2 σ0 mc ms 11 σ 0 0 [(some a0, 13)] 16 [(0, va_rf (some a0)), (1, .int x1), (2, .int x2), (3, .int x3), (4, .int x4), (5, .int x5), (6, .int x6)] []) : ∀ (a0 : Nat) (x1 : Int32) (x2 : Int32) (x3 : Int32) (x4 : Int32) (x5 : Int32) (x6 : Int32) (x7 : Int32) (xs0 : Int32) (σ : St), w_X12_slotFor_89 Q K16 a0 x1 x2 x3 x4 x5 x6 x7 xs0 σ → V p l e (rmD 4 mc ms) s m args below meth c (MQ below (va_Qi Q (gB G 2 σ0) (GA G)) args s mc ms (GA G)) G 2 σ0 mc ms 11 σ 0 0 [(some a0, 13)] 89 [(0, va_rf (some a0)), (1, .int x1), (2, .int x2), (3, .int x3), (4, .int x4), (5, .int x5), (6, .int x6), (7, .int x7)] [.int xs0] := by
  intro a0 x1 x2 x3 x4 x5 x6 x7 xs0 σ hw
  unfold w_X12_slotFor_89 at hw
  refine v_istore X [(8, .int xs0), (0, va_rf (some a0)), (1, .int x1), (2, .int x2), (3, .int x3), (4, .int x4), (5, .int x5), (6, .int x6), (7, .int x7)] (gD D_X12_slotFor_0 49 rfl) (by decide) rfl ?_
  refine v_aload_n X 1 rfl (gD D_X12_slotFor_0 50 rfl) rfl ?_
  refine v_getR X RX12 TX12 65 13 12 (by decide) rfl gin12 19 1219 RX12 (Or.inl rfl) 0 21 rfl rfl rfl (by decide) lk_fRX12_53 (gD D_X12_slotFor_0 51 rfl) (fun o62 eo62 => ?_)
  replace hw := hw o62 eo62
  refine v_bipush X 12 (gD D_X12_slotFor_0 52 rfl) (by decide) ?_
  refine v_iload X 7 rfl (gD D_X12_slotFor_0 53 rfl) ?_
  refine v_imul X (gD D_X12_slotFor_0 54 rfl) ?_
  refine v_iload_n X 2 rfl (gD D_X12_slotFor_0 55 rfl) rfl ?_
  refine v_iadd X (gD D_X12_slotFor_0 56 rfl) ?_
  obtain ⟨a63, rfl, hw⟩ := hw
  obtain ⟨h64, hw⟩ := hw
  refine v_iald X 0 rfl (by decide) h64 (gD D_X12_slotFor_0 57 rfl) ?_
  refine v_if_le X 110 (gD D_X12_slotFor_0 58 rfl) (by decide) (fun c65 => ?_) (fun c65 => ?_)
  · replace hw := hw.1 c65
    refine v_aload_n X 1 rfl (gD D_X12_slotFor_0 61 rfl) rfl ?_
    refine v_iload X 7 rfl (gD D_X12_slotFor_0 62 rfl) ?_
    refine v_iload X 6 rfl (gD D_X12_slotFor_0 63 rfl) ?_
    refine v_callVi X (As := [.int x6, .int x5]) (rest := []) (nA := 2) 0 0 0 0 (fun ht => c_X12_itemIn htr (ht.sub [1] rfl) hw) (Or.inl rfl) 1 (κ := 13) rfl (by decide) (rfl : gCl[12]? = some (RX12, TX12, 65)) lk_vRX12_214 (by decide +kernel) rfl rfl (by decide) (by decide) (by decide) rfl rfl (gD D_X12_slotFor_0 64 rfl) (fun x66 s67 hq _ _ => ?_)
    replace hw := hq
    clear hq
    refine v_if_le X 125 (gD D_X12_slotFor_0 65 rfl) (by decide) (fun c68 => ?_) (fun c68 => ?_)
    · replace hw := hw.1 c68
      refine v_iconst X 2 (gD D_X12_slotFor_0 68 rfl) (by decide) ?_
      exact v_sub [1] [1, 2, 3, 4, 5, 6, 7, 8, 0] rfl rfl (t_X12_slotFor_126 X hr hin htr hK16 a0 x1 x2 x3 x4 x5 x6 x7 xs0 2 s67 hw)
    · replace hw := hw.2 c68
      refine v_iconst X 1 (gD D_X12_slotFor_0 66 rfl) (by decide) ?_
      refine v_goto X 126 (gD D_X12_slotFor_0 67 rfl) (by decide) ?_
      exact v_sub [1] [1, 2, 3, 4, 5, 6, 7, 8, 0] rfl rfl (t_X12_slotFor_126 X hr hin htr hK16 a0 x1 x2 x3 x4 x5 x6 x7 xs0 1 s67 hw)
  · replace hw := hw.2 c65
    refine v_iconst X 0 (gD D_X12_slotFor_0 59 rfl) (by decide) ?_
    refine v_goto X 126 (gD D_X12_slotFor_0 60 rfl) (by decide) ?_
    exact v_sub [1] [1, 2, 3, 4, 5, 6, 7, 8, 0] rfl rfl (t_X12_slotFor_126 X hr hin htr hK16 a0 x1 x2 x3 x4 x5 x6 x7 xs0 0 σ hw)
set_option maxRecDepth 100000 in
set_option maxHeartbeats 4000000 in
theorem t_X12_slotFor_88 {p : Program} {l : Launch} {e : Env} {s : State} {m : MethodId} {args : Array Value} {below : List Frame} {meth : Method} {c : Code} {G : GX} {σ0 : St} {mc ms : Nat} {Q : Int32 → St → Prop} (X : VC p l (rmD 4 mc ms) s m args meth c G 4 mc ms 11 RX12 cX12_slotFor) (hr : meth.sig.returnType = (some .int)) (hin : meth.name = yX12_slotFor.name) (htr : l.stackTraces = false) {K16 : Nat → Int32 → Int32 → Int32 → Int32 → Int32 → Int32 → St → Prop} (hK16 : ∀ (a0 : Nat) (x1 : Int32) (x2 : Int32) (x3 : Int32) (x4 : Int32) (x5 : Int32) (x6 : Int32) (σ : St), K16 a0 x1 x2 x3 x4 x5 x6 σ → V p l e (rmD 4 mc ms) s m args below meth c (MQ below (va_Qi Q (gB G 2 σ0) (GA G)) args s mc ms (GA G)) G 2 σ0 mc ms 11 σ 0 0 [(some a0, 13)] 16 [(0, va_rf (some a0)), (1, .int x1), (2, .int x2), (3, .int x3), (4, .int x4), (5, .int x5), (6, .int x6)] []) : ∀ (a0 : Nat) (x1 : Int32) (x2 : Int32) (x3 : Int32) (x4 : Int32) (x5 : Int32) (x6 : Int32) (x7 : Int32) (σ : St), w_X12_slotFor_88 Q K16 a0 x1 x2 x3 x4 x5 x6 x7 σ → V p l e (rmD 4 mc ms) s m args below meth c (MQ below (va_Qi Q (gB G 2 σ0) (GA G)) args s mc ms (GA G)) G 2 σ0 mc ms 11 σ 0 0 [(some a0, 13)] 88 [(0, va_rf (some a0)), (1, .int x1), (2, .int x2), (3, .int x3), (4, .int x4), (5, .int x5), (6, .int x6), (7, .int x7)] [] := by
  intro a0 x1 x2 x3 x4 x5 x6 x7 σ hw
  unfold w_X12_slotFor_88 at hw
  refine v_iconst X 0 (gD D_X12_slotFor_0 48 rfl) (by decide) ?_
  exact v_sub [0] [0, 1, 2, 3, 4, 5, 6, 7] rfl rfl (t_X12_slotFor_89 X hr hin htr hK16 a0 x1 x2 x3 x4 x5 x6 x7 0 σ hw)
set_option maxRecDepth 100000 in
set_option maxHeartbeats 4000000 in
theorem t_X12_slotFor_16 {p : Program} {l : Launch} {e : Env} {s : State} {m : MethodId} {args : Array Value} {below : List Frame} {meth : Method} {c : Code} {G : GX} {σ0 : St} {mc ms : Nat} {Q : Int32 → St → Prop} (X : VC p l (rmD 4 mc ms) s m args meth c G 4 mc ms 11 RX12 cX12_slotFor) (hr : meth.sig.returnType = (some .int)) (hin : meth.name = yX12_slotFor.name) (htr : l.stackTraces = false) : ∀ (f : Nat) (a0 : Nat) (x1 : Int32) (x2 : Int32) (x3 : Int32) (x4 : Int32) (x5 : Int32) (x6 : Int32) (σ : St), w_X12_slotFor_16 Q  f a0 x1 x2 x3 x4 x5 x6 σ → V p l e (rmD 4 mc ms) s m args below meth c (MQ below (va_Qi Q (gB G 2 σ0) (GA G)) args s mc ms (GA G)) G 2 σ0 mc ms 11 σ 0 0 [(some a0, 13)] 16 [(0, va_rf (some a0)), (1, .int x1), (2, .int x2), (3, .int x3), (4, .int x4), (5, .int x5), (6, .int x6)] [] := by
  intro f
  induction f with
  | zero => intro a0 x1 x2 x3 x4 x5 x6 σ hw; exact hw.elim
  | succ f ih =>
    intro a0 x1 x2 x3 x4 x5 x6 σ hw
    unfold w_X12_slotFor_16 at hw
    refine v_iload X 6 rfl (gD D_X12_slotFor_0 11 rfl) ?_
    refine v_bipush X 18 (gD D_X12_slotFor_0 12 rfl) (by decide) ?_
    refine v_icmp_ge X 184 (gD D_X12_slotFor_0 13 rfl) (by decide) (fun c55 => ?_) (fun c55 => ?_)
    · replace hw := hw.1 c55
      refine v_iload_n X 3 rfl (gD D_X12_slotFor_0 97 rfl) rfl ?_
      exact v_iret X hr hw (gD D_X12_slotFor_0 98 rfl)
    · replace hw := hw.2 c55
      refine v_aload_n X 0 rfl (gD D_X12_slotFor_0 14 rfl) rfl ?_
      refine v_iload X 6 rfl (gD D_X12_slotFor_0 15 rfl) ?_
      refine v_callVi X (As := [.int x6]) (rest := []) (nA := 1) 0 0 0 0 (fun ht => c_X12_roomLeft htr (ht.sub [0] rfl) hw) (Or.inl rfl) 0 (κ := 13) rfl (by decide) (rfl : gCl[12]? = some (RX12, TX12, 65)) lk_vRX12_241 (by decide +kernel) rfl rfl (by decide) (by decide) (by decide) rfl rfl (gD D_X12_slotFor_0 16 rfl) (fun x56 s57 hq _ _ => ?_)
      replace hw := hq
      clear hq
      refine v_istore X [(7, .int x56), (0, va_rf (some a0)), (1, .int x1), (2, .int x2), (3, .int x3), (4, .int x4), (5, .int x5), (6, .int x6)] (gD D_X12_slotFor_0 17 rfl) (by decide) rfl ?_
      refine v_aload_n X 1 rfl (gD D_X12_slotFor_0 18 rfl) rfl ?_
      refine v_getR X RX12 TX12 65 13 12 (by decide) rfl gin12 6 1206 RX12 (Or.inl rfl) 0 21 rfl rfl rfl (by decide) lk_fRX12_16 (gD D_X12_slotFor_0 19 rfl) (fun o58 eo58 => ?_)
      replace hw := hw o58 eo58
      refine v_iload X 7 rfl (gD D_X12_slotFor_0 20 rfl) ?_
      obtain ⟨a59, rfl, hw⟩ := hw
      obtain ⟨h60, hw⟩ := hw
      refine v_iald X 0 rfl (by decide) h60 (gD D_X12_slotFor_0 21 rfl) ?_
      refine v_iconst X (-1) (gD D_X12_slotFor_0 22 rfl) (by decide) ?_
      refine v_icmp_ne X 88 (gD D_X12_slotFor_0 23 rfl) (by decide) (fun c61 => ?_) (fun c61 => ?_)
      · replace hw := hw.1 c61
        exact v_sub [1] [1, 2, 3, 4, 5, 6, 7, 0] rfl rfl (t_X12_slotFor_88 X hr hin htr ih a0 x1 x2 x3 x4 x5 x6 x56 s57 hw)
      · replace hw := hw.2 c61
        refine v_aload_n X 1 rfl (gD D_X12_slotFor_0 24 rfl) rfl ?_
        refine v_getR X RX12 TX12 65 13 12 (by decide) rfl gin12 4 1204 RX12 (Or.inl rfl) 1 21 rfl rfl rfl (by decide) lk_fRX12_7 (gD D_X12_slotFor_0 25 rfl) (fun o74 eo74 => ?_)
        replace hw := hw o74 eo74
        refine v_iload X 7 rfl (gD D_X12_slotFor_0 26 rfl) ?_
        obtain ⟨a75, rfl, hw⟩ := hw
        obtain ⟨h76, hw⟩ := hw
        refine v_iald X 0 rfl (by decide) h76 (gD D_X12_slotFor_0 27 rfl) ?_
        refine v_aload_n X 1 rfl (gD D_X12_slotFor_0 28 rfl) rfl ?_
        refine v_getR X RX12 TX12 65 13 12 (by decide) rfl gin12 9 1209 RX12 (Or.inl rfl) 2 21 rfl rfl rfl (by decide) lk_fRX12_25 (gD D_X12_slotFor_0 29 rfl) (fun o77 eo77 => ?_)
        replace hw := hw o77 eo77
        refine v_iload X 6 rfl (gD D_X12_slotFor_0 30 rfl) ?_
        obtain ⟨a78, rfl, hw⟩ := hw
        obtain ⟨h79, hw⟩ := hw
        refine v_iald X 0 rfl (by decide) h79 (gD D_X12_slotFor_0 31 rfl) ?_
        refine v_icmp_ne X 88 (gD D_X12_slotFor_0 32 rfl) (by decide) (fun c80 => ?_) (fun c80 => ?_)
        · replace hw := hw.1 c80
          exact v_sub [3] [1, 2, 3, 4, 5, 6, 7, 0] rfl rfl (t_X12_slotFor_88 X hr hin htr ih a0 x1 x2 x3 x4 x5 x6 x56 s57 hw)
        · replace hw := hw.2 c80
          refine v_iload X 0 rfl (gD D_X12_slotFor_0 33 rfl) ?_
          refine v_iload_n X 3 rfl (gD D_X12_slotFor_0 34 rfl) rfl ?_
          refine v_aload_n X 1 rfl (gD D_X12_slotFor_0 35 rfl) rfl ?_
          refine v_getR X RX12 TX12 65 13 12 (by decide) rfl gin12 10 1210 RX12 (Or.inl rfl) 3 21 rfl rfl rfl (by decide) lk_fRX12_28 (gD D_X12_slotFor_0 36 rfl) (fun o81 eo81 => ?_)
          replace hw := hw o81 eo81
          refine v_iload X 6 rfl (gD D_X12_slotFor_0 37 rfl) ?_
          obtain ⟨a82, rfl, hw⟩ := hw
          obtain ⟨h83, hw⟩ := hw
          refine v_iald X 0 rfl (by decide) h83 (gD D_X12_slotFor_0 38 rfl) ?_
          refine v_imul X (gD D_X12_slotFor_0 39 rfl) ?_
          refine v_icmp_lt X 88 (gD D_X12_slotFor_0 40 rfl) (by decide) (fun c84 => ?_) (fun c84 => ?_)
          · replace hw := hw.1 c84
            exact v_sub [4] [1, 2, 3, 4, 5, 6, 7, 0] rfl rfl (t_X12_slotFor_88 X hr hin htr ih a0 x1 x2 x3 x4 x5 x6 x56 s57 hw)
          · replace hw := hw.2 c84
            refine v_aload_n X 1 rfl (gD D_X12_slotFor_0 41 rfl) rfl ?_
            refine v_iload X 7 rfl (gD D_X12_slotFor_0 42 rfl) ?_
            refine v_iload X 6 rfl (gD D_X12_slotFor_0 43 rfl) ?_
            refine v_callVi X (As := [.int x6, .int x5]) (rest := []) (nA := 2) 0 0 0 0 (fun ht => c_X12_isBarredAt htr (ht.sub [4] rfl) hw) (Or.inl rfl) 4 (κ := 13) rfl (by decide) (rfl : gCl[12]? = some (RX12, TX12, 65)) lk_vRX12_268 (by decide +kernel) rfl rfl (by decide) (by decide) (by decide) rfl rfl (gD D_X12_slotFor_0 44 rfl) (fun x85 s86 hq _ _ => ?_)
            replace hw := hq
            clear hq
            refine v_if_ne X 88 (gD D_X12_slotFor_0 45 rfl) (by decide) (fun c87 => ?_) (fun c87 => ?_)
            · replace hw := hw.1 c87
              exact v_sub [4] [1, 2, 3, 4, 5, 6, 7, 0] rfl rfl (t_X12_slotFor_88 X hr hin htr ih a0 x1 x2 x3 x4 x5 x6 x56 s86 hw)
            · replace hw := hw.2 c87
              refine v_iconst X 1 (gD D_X12_slotFor_0 46 rfl) (by decide) ?_
              refine v_goto X 89 (gD D_X12_slotFor_0 47 rfl) (by decide) ?_
              exact v_sub [4] [1, 2, 3, 4, 5, 6, 7, 0] rfl rfl (t_X12_slotFor_89 X hr hin htr ih a0 x1 x2 x3 x4 x5 x6 x56 1 s86 hw)
set_option maxRecDepth 100000 in
set_option maxHeartbeats 4000000 in
theorem c_X12_slotFor {l : Launch} {G : GX} (htr : l.stackTraces = false) {σ : St} {a0 : Nat} {x1 : Int32} {x2 : Int32} {Q : Int32 → St → Prop} (ht : tvOk σ [(some a0, 13)]) (hw : w_X12_slotFor a0 x1 x2 σ Q) : MI l G 2 σ yX12_slotFor cX12_slotFor 11 (some .int) 4 0 0 [va_rf (some a0), .int x1, .int x2] Q := by
  unfold w_X12_slotFor at hw
  refine m_start RX12 (by decide) htr ht (Nat.le_of_ble_eq_true rfl) rfl (lv := [(0, va_rf (some a0)), (1, .int x1), (2, .int x2)]) (d := 2) (fun p e s m args below meth c X hr hin => ?_)
  refine v_iconst X (-1) (gD D_X12_slotFor_0 0 rfl) (by decide) ?_
  refine v_istore_n X [(3, .int (-1)), (0, va_rf (some a0)), (1, .int x1), (2, .int x2)] (gD D_X12_slotFor_0 1 rfl) rfl (by decide) rfl ?_
  refine v_iconst X 0 (gD D_X12_slotFor_0 2 rfl) (by decide) ?_
  refine v_istore X [(4, .int 0), (3, .int (-1)), (0, va_rf (some a0)), (1, .int x1), (2, .int x2)] (gD D_X12_slotFor_0 3 rfl) (by decide) rfl ?_
  refine v_aload_n X 2 rfl (gD D_X12_slotFor_0 4 rfl) rfl ?_
  refine v_getR X RX12 TX12 65 13 12 (by decide) rfl gin12 16 1216 RX12 (Or.inl rfl) 0 21 rfl rfl rfl (by decide) lk_fRX12_44 (gD D_X12_slotFor_0 5 rfl) (fun o51 eo51 => ?_)
  replace hw := hw o51 eo51
  refine v_iload_n X 3 rfl (gD D_X12_slotFor_0 6 rfl) rfl ?_
  obtain ⟨a52, rfl, hw⟩ := hw
  obtain ⟨h53, hw⟩ := hw
  refine v_iald X 0 rfl (by decide) h53 (gD D_X12_slotFor_0 7 rfl) ?_
  refine v_topi (fun x54 ex54 => ?_)
  replace hw := hw x54 ex54
  refine v_istore X [(5, .int x54), (4, .int 0), (3, .int (-1)), (0, va_rf (some a0)), (1, .int x1), (2, .int x2)] (gD D_X12_slotFor_0 8 rfl) (by decide) rfl ?_
  refine v_iconst X 0 (gD D_X12_slotFor_0 9 rfl) (by decide) ?_
  refine v_istore X [(6, .int 0), (5, .int x54), (4, .int 0), (3, .int (-1)), (0, va_rf (some a0)), (1, .int x1), (2, .int x2)] (gD D_X12_slotFor_0 10 rfl) (by decide) rfl ?_
  obtain ⟨f88, hw⟩ := hw
  exact v_sub [1] [4, 5, 6, 3, 2, 1, 0] rfl rfl (t_X12_slotFor_16 X hr hin htr  f88 a0 x1 x2 (-1) 0 x54 0 σ hw)
set_option maxRecDepth 100000 in
set_option maxHeartbeats 4000000 in
theorem t_X12_allocate_16 {p : Program} {l : Launch} {e : Env} {s : State} {m : MethodId} {args : Array Value} {below : List Frame} {meth : Method} {c : Code} {G : GX} {σ0 : St} {mc ms : Nat} {Q : Int32 → St → Prop} (X : VC p l (rmD 5 mc ms) s m args meth c G 5 mc ms 4 RX12 cX12_allocate) (hr : meth.sig.returnType = (some .int)) (hin : meth.name = yX12_allocate.name) (htr : l.stackTraces = false) {K10 : Nat → Int32 → Int32 → St → Prop} (hK10 : ∀ (a0 : Nat) (x1 : Int32) (x2 : Int32) (σ : St), K10 a0 x1 x2 σ → V p l e (rmD 5 mc ms) s m args below meth c (MQ below (va_Qi Q (gB G 2 σ0) (GA G)) args s mc ms (GA G)) G 2 σ0 mc ms 4 σ 0 0 [(some a0, 13)] 10 [(0, va_rf (some a0)), (1, .int x1), (2, .int x2)] []) : ∀ (f : Nat) (a0 : Nat) (x1 : Int32) (x2 : Int32) (x3 : Int32) (σ : St), w_X12_allocate_16 Q K10 f a0 x1 x2 x3 σ → V p l e (rmD 5 mc ms) s m args below meth c (MQ below (va_Qi Q (gB G 2 σ0) (GA G)) args s mc ms (GA G)) G 2 σ0 mc ms 4 σ 0 0 [(some a0, 13)] 16 [(0, va_rf (some a0)), (1, .int x1), (2, .int x2), (3, .int x3)] [] := by
  intro f
  induction f with
  | zero => intro a0 x1 x2 x3 σ hw; exact hw.elim
  | succ f ih =>
    intro a0 x1 x2 x3 σ hw
    unfold w_X12_allocate_16 at hw
    refine v_iload_n X 3 rfl (gD D_X12_allocate_0 11 rfl) rfl ?_
    refine v_aload_n X 0 rfl (gD D_X12_allocate_0 12 rfl) rfl ?_
    refine v_getI X RX12 TX12 65 13 12 (by decide) rfl gin12 27 1227 RX12 (Or.inl rfl) 0 rfl rfl (by decide) lk_fRX12_193 (gD D_X12_allocate_0 13 rfl) ?_
    refine v_icmp_ge X 61 (gD D_X12_allocate_0 14 rfl) (by decide) (fun c53 => ?_) (fun c53 => ?_)
    · replace hw := hw.1 c53
      refine v_iinc X (x2 + (-1)) 2 rfl [(2, .int (x2 + (-1))), (0, va_rf (some a0)), (1, .int x1), (3, .int x3)] (gD D_X12_allocate_0 36 rfl) rfl (by decide) rfl ?_
      refine v_goto X 10 (gD D_X12_allocate_0 37 rfl) (by decide) ?_
      exact v_sub [0] [1, 2, 0] rfl rfl (hK10 a0 x1 (x2 + (-1)) σ hw)
    · replace hw := hw.2 c53
      refine v_iload_n X 1 rfl (gD D_X12_allocate_0 15 rfl) rfl ?_
      refine v_aload_n X 0 rfl (gD D_X12_allocate_0 16 rfl) rfl ?_
      refine v_getR X RX12 TX12 65 13 12 (by decide) rfl gin12 32 1232 RX12 (Or.inl rfl) 0 22 rfl rfl rfl (by decide) lk_fRX12_86 (gD D_X12_allocate_0 17 rfl) (fun o54 eo54 => ?_)
      replace hw := hw o54 eo54
      refine v_iload_n X 3 rfl (gD D_X12_allocate_0 18 rfl) rfl ?_
      obtain ⟨a55, rfl, hw⟩ := hw
      obtain ⟨h56, hw⟩ := hw
      refine v_zald X 0 rfl rfl h56 (gD D_X12_allocate_0 19 rfl) ?_
      refine v_if_ne X 52 (gD D_X12_allocate_0 20 rfl) (by decide) (fun c57 => ?_) (fun c57 => ?_)
      · replace hw := hw.1 c57
        refine v_iconst X 0 (gD D_X12_allocate_0 31 rfl) (by decide) ?_
        refine v_iadd X (gD D_X12_allocate_0 32 rfl) ?_
        refine v_topi (fun x58 ex58 => ?_)
        replace hw := hw x58 ex58
        refine v_istore_n X [(1, .int x58), (0, va_rf (some a0)), (2, .int x2), (3, .int x3)] (gD D_X12_allocate_0 33 rfl) rfl (by decide) rfl ?_
        refine v_iinc X (x3 + 1) 3 rfl [(3, .int (x3 + 1)), (1, .int x58), (0, va_rf (some a0)), (2, .int x2)] (gD D_X12_allocate_0 34 rfl) rfl (by decide) rfl ?_
        refine v_goto X 16 (gD D_X12_allocate_0 35 rfl) (by decide) ?_
        exact v_sub [1] [2, 1, 3, 0] rfl rfl (ih a0 x58 x2 (x3 + 1) σ hw)
      · replace hw := hw.2 c57
        refine v_aload_n X 0 rfl (gD D_X12_allocate_0 21 rfl) rfl ?_
        refine v_getR X RX12 TX12 65 13 12 (by decide) rfl gin12 28 1228 RX12 (Or.inl rfl) 1 21 rfl rfl rfl (by decide) lk_fRX12_74 (gD D_X12_allocate_0 22 rfl) (fun o59 eo59 => ?_)
        replace hw := hw o59 eo59
        refine v_iload_n X 3 rfl (gD D_X12_allocate_0 23 rfl) rfl ?_
        obtain ⟨a60, rfl, hw⟩ := hw
        obtain ⟨h61, hw⟩ := hw
        refine v_iald X 0 rfl (by decide) h61 (gD D_X12_allocate_0 24 rfl) ?_
        refine v_iload_n X 2 rfl (gD D_X12_allocate_0 25 rfl) rfl ?_
        refine v_icmp_ne X 52 (gD D_X12_allocate_0 26 rfl) (by decide) (fun c62 => ?_) (fun c62 => ?_)
        · replace hw := hw.1 c62
          refine v_iconst X 0 (gD D_X12_allocate_0 31 rfl) (by decide) ?_
          refine v_iadd X (gD D_X12_allocate_0 32 rfl) ?_
          refine v_topi (fun x63 ex63 => ?_)
          replace hw := hw x63 ex63
          refine v_istore_n X [(1, .int x63), (0, va_rf (some a0)), (2, .int x2), (3, .int x3)] (gD D_X12_allocate_0 33 rfl) rfl (by decide) rfl ?_
          refine v_iinc X (x3 + 1) 3 rfl [(3, .int (x3 + 1)), (1, .int x63), (0, va_rf (some a0)), (2, .int x2)] (gD D_X12_allocate_0 34 rfl) rfl (by decide) rfl ?_
          refine v_goto X 16 (gD D_X12_allocate_0 35 rfl) (by decide) ?_
          exact v_sub [2] [2, 1, 3, 0] rfl rfl (ih a0 x63 x2 (x3 + 1) σ hw)
        · replace hw := hw.2 c62
          refine v_aload_n X 0 rfl (gD D_X12_allocate_0 27 rfl) rfl ?_
          refine v_iload_n X 3 rfl (gD D_X12_allocate_0 28 rfl) rfl ?_
          refine v_callVi X (As := [.int x3]) (rest := [.int x1]) (nA := 1) 0 0 0 0 (fun ht => c_X12_allocates htr (ht.sub [2] rfl) hw) (Or.inl rfl) 2 (κ := 13) rfl (by decide) (rfl : gCl[12]? = some (RX12, TX12, 65)) lk_vRX12_299 (by decide +kernel) rfl rfl (by simp [rf_cat, ct_i]) (by decide) (by decide) rfl rfl (gD D_X12_allocate_0 29 rfl) (fun x64 s65 hq _ _ => ?_)
          replace hw := hq
          clear hq
          refine v_goto X 53 (gD D_X12_allocate_0 30 rfl) (by decide) ?_
          refine v_iadd X (gD D_X12_allocate_0 32 rfl) ?_
          refine v_topi (fun x66 ex66 => ?_)
          replace hw := hw x66 ex66
          refine v_istore_n X [(1, .int x66), (0, va_rf (some a0)), (2, .int x2), (3, .int x3)] (gD D_X12_allocate_0 33 rfl) rfl (by decide) rfl ?_
          refine v_iinc X (x3 + 1) 3 rfl [(3, .int (x3 + 1)), (1, .int x66), (0, va_rf (some a0)), (2, .int x2)] (gD D_X12_allocate_0 34 rfl) rfl (by decide) rfl ?_
          refine v_goto X 16 (gD D_X12_allocate_0 35 rfl) (by decide) ?_
          exact v_sub [2] [2, 1, 3, 0] rfl rfl (ih a0 x66 x2 (x3 + 1) s65 hw)
set_option maxRecDepth 100000 in
set_option maxHeartbeats 4000000 in
theorem t_X12_allocate_10 {p : Program} {l : Launch} {e : Env} {s : State} {m : MethodId} {args : Array Value} {below : List Frame} {meth : Method} {c : Code} {G : GX} {σ0 : St} {mc ms : Nat} {Q : Int32 → St → Prop} (X : VC p l (rmD 5 mc ms) s m args meth c G 5 mc ms 4 RX12 cX12_allocate) (hr : meth.sig.returnType = (some .int)) (hin : meth.name = yX12_allocate.name) (htr : l.stackTraces = false) : ∀ (f : Nat) (a0 : Nat) (x1 : Int32) (x2 : Int32) (σ : St), w_X12_allocate_10 Q  f a0 x1 x2 σ → V p l e (rmD 5 mc ms) s m args below meth c (MQ below (va_Qi Q (gB G 2 σ0) (GA G)) args s mc ms (GA G)) G 2 σ0 mc ms 4 σ 0 0 [(some a0, 13)] 10 [(0, va_rf (some a0)), (1, .int x1), (2, .int x2)] [] := by
  intro f
  induction f with
  | zero => intro a0 x1 x2 σ hw; exact hw.elim
  | succ f ih =>
    intro a0 x1 x2 σ hw
    unfold w_X12_allocate_10 at hw
    refine v_iload_n X 2 rfl (gD D_X12_allocate_0 7 rfl) rfl ?_
    refine v_if_lt X 67 (gD D_X12_allocate_0 8 rfl) (by decide) (fun c52 => ?_) (fun c52 => ?_)
    · replace hw := hw.1 c52
      refine v_iload_n X 1 rfl (gD D_X12_allocate_0 38 rfl) rfl ?_
      exact v_iret X hr hw (gD D_X12_allocate_0 39 rfl)
    · replace hw := hw.2 c52
      refine v_iconst X 0 (gD D_X12_allocate_0 9 rfl) (by decide) ?_
      refine v_istore_n X [(3, .int 0), (0, va_rf (some a0)), (1, .int x1), (2, .int x2)] (gD D_X12_allocate_0 10 rfl) rfl (by decide) rfl ?_
      obtain ⟨f67, hw⟩ := hw
      exact v_sub [0] [1, 2, 3, 0] rfl rfl (t_X12_allocate_16 X hr hin htr ih f67 a0 x1 x2 0 σ hw)
set_option maxRecDepth 100000 in
set_option maxHeartbeats 4000000 in
theorem c_X12_allocate {l : Launch} {G : GX} (htr : l.stackTraces = false) {σ : St} {a0 : Nat} {Q : Int32 → St → Prop} (ht : tvOk σ [(some a0, 13)]) (hw : w_X12_allocate a0 σ Q) : MI l G 2 σ yX12_allocate cX12_allocate 4 (some .int) 5 0 0 [va_rf (some a0)] Q := by
  unfold w_X12_allocate at hw
  refine m_start RX12 (by decide) htr ht (Nat.le_of_ble_eq_true rfl) rfl (lv := [(0, va_rf (some a0))]) (d := 2) (fun p e s m args below meth c X hr hin => ?_)
  refine v_aload_n X 0 rfl (gD D_X12_allocate_0 0 rfl) rfl ?_
  refine v_iconst X 0 (gD D_X12_allocate_0 1 rfl) (by decide) ?_
  refine v_putI X RX12 TX12 65 13 12 (by decide) rfl gin12 0 1200 tyX12 tyX12_ok nmX12 RX12 (Or.inl rfl) 0 rfl .int (int_fit _) rfl (by decide) (Or.inl rfl) lk_fRX12_179 rfl rfl (gD D_X12_allocate_0 2 rfl) (fun s51 es51 => ?_)
  replace hw := hw s51 es51
  refine v_iconst X 0 (gD D_X12_allocate_0 3 rfl) (by decide) ?_
  refine v_istore_n X [(1, .int 0), (0, va_rf (some a0))] (gD D_X12_allocate_0 4 rfl) rfl (by decide) rfl ?_
  refine v_bipush X 9 (gD D_X12_allocate_0 5 rfl) (by decide) ?_
  refine v_istore_n X [(2, .int 9), (1, .int 0), (0, va_rf (some a0))] (gD D_X12_allocate_0 6 rfl) rfl (by decide) rfl ?_
  obtain ⟨f68, hw⟩ := hw
  exact v_sub [0] [2, 1, 0] rfl rfl (t_X12_allocate_10 X hr hin htr  f68 a0 0 9 s51 hw)
set_option maxRecDepth 100000 in
set_option maxHeartbeats 4000000 in
theorem t_X12_putAway_51 {p : Program} {l : Launch} {e : Env} {s : State} {m : MethodId} {args : Array Value} {below : List Frame} {meth : Method} {c : Code} {G : GX} {σ0 : St} {mc ms : Nat} {Q : Int32 → St → Prop} (X : VC p l (rmD 5 mc ms) s m args meth c G 5 mc ms 6 RX12 cX12_putAway) (hr : meth.sig.returnType = (some .int)) (hin : meth.name = yX12_putAway.name) (htr : l.stackTraces = false) : ∀ (a0 : Nat) (x1 : Int32) (x2 : Int32) (as0 : Nat) (xs1 : Int32) (σ : St), w_X12_putAway_51 Q  a0 x1 x2 as0 xs1 σ → V p l e (rmD 5 mc ms) s m args below meth c (MQ below (va_Qi Q (gB G 2 σ0) (GA G)) args s mc ms (GA G)) G 2 σ0 mc ms 6 σ 0 0 [(some a0, 13), (some as0, 13)] 51 [(0, va_rf (some a0)), (1, .int x1), (2, .int x2)] [.int xs1, va_rf (some as0)] := by
  intro a0 x1 x2 as0 xs1 σ hw
  unfold w_X12_putAway_51 at hw
  refine v_callVi X (As := [.int xs1]) (rest := []) (nA := 1) 0 0 0 0 (fun ht => c_X12_holds htr (ht.sub [1] rfl) hw) (Or.inl rfl) 1 (κ := 13) rfl (by decide) (rfl : gCl[12]? = some (RX12, TX12, 65)) lk_vRX12_223 (by decide +kernel) rfl rfl (by decide) (by decide) (by decide) rfl rfl (gD D_X12_putAway_0 27 rfl) (fun x60 s61 hq _ _ => ?_)
  replace hw := hq
  clear hq
  refine v_if_ne X 59 (gD D_X12_putAway_0 28 rfl) (by decide) (fun c62 => ?_) (fun c62 => ?_)
  · replace hw := hw.1 c62
    refine v_aload_n X 0 rfl (gD D_X12_putAway_0 31 rfl) rfl ?_
    refine v_iload_n X 1 rfl (gD D_X12_putAway_0 32 rfl) rfl ?_
    refine v_iload_n X 2 rfl (gD D_X12_putAway_0 33 rfl) rfl ?_
    refine v_callVi X (As := [.int x1, .int x2]) (rest := []) (nA := 2) 0 0 0 0 (fun ht => c_X12_slotFor htr (ht.sub [0] rfl) hw) (Or.inl rfl) 0 (κ := 13) rfl (by decide) (rfl : gCl[12]? = some (RX12, TX12, 65)) lk_vRX12_271 (by decide +kernel) rfl rfl (by decide) (by decide) (by decide) rfl rfl (gD D_X12_putAway_0 34 rfl) (fun x63 s64 hq _ _ => ?_)
    replace hw := hq
    clear hq
    refine v_istore X [(4, .int x63), (0, va_rf (some a0)), (1, .int x1), (2, .int x2)] (gD D_X12_putAway_0 35 rfl) (by decide) rfl ?_
    refine v_iload X 0 rfl (gD D_X12_putAway_0 36 rfl) ?_
    refine v_iconst X (-1) (gD D_X12_putAway_0 37 rfl) (by decide) ?_
    refine v_icmp_eq X 87 (gD D_X12_putAway_0 38 rfl) (by decide) (fun c65 => ?_) (fun c65 => ?_)
    · replace hw := hw.1 c65
      refine v_iload X 0 rfl (gD D_X12_putAway_0 48 rfl) ?_
      exact v_iret X hr hw (gD D_X12_putAway_0 49 rfl)
    · replace hw := hw.2 c65
      refine v_aload_n X 1 rfl (gD D_X12_putAway_0 39 rfl) rfl ?_
      refine v_iconst X 0 (gD D_X12_putAway_0 40 rfl) (by decide) ?_
      refine v_iload_n X 2 rfl (gD D_X12_putAway_0 41 rfl) rfl ?_
      refine v_bipush X 18 (gD D_X12_putAway_0 42 rfl) (by decide) ?_
      refine v_iload X 0 rfl (gD D_X12_putAway_0 43 rfl) ?_
      refine v_iconst X (-1) (gD D_X12_putAway_0 44 rfl) (by decide) ?_
      refine v_iload_n X 3 rfl (gD D_X12_putAway_0 45 rfl) rfl ?_
      refine v_callVi X (As := [.int 0, .int x1, .int 18, .int x63, .int (-1), .int x2]) (rest := []) (nA := 6) 0 0 0 0 (fun ht => c_X12_makes htr (ht.sub [0] rfl) hw) (Or.inl rfl) 0 (κ := 13) rfl (by decide) (rfl : gCl[12]? = some (RX12, TX12, 65)) lk_vRX12_274 (by decide +kernel) rfl rfl (by decide) (by decide) (by decide) rfl rfl (gD D_X12_putAway_0 46 rfl) (fun x66 s67 hq _ _ => ?_)
      replace hw := hq
      clear hq
      refine v_istore X [(5, .int x66), (4, .int x63), (0, va_rf (some a0)), (1, .int x1), (2, .int x2)] (gD D_X12_putAway_0 47 rfl) (by decide) rfl ?_
      refine v_iload X 1 rfl (gD D_X12_putAway_0 48 rfl) ?_
      exact v_iret X hr hw (gD D_X12_putAway_0 49 rfl)
  · replace hw := hw.2 c62
    refine v_iconst X 0 (gD D_X12_putAway_0 29 rfl) (by decide) ?_
    exact v_iret X hr hw (gD D_X12_putAway_0 30 rfl)
set_option maxRecDepth 100000 in
set_option maxHeartbeats 4000000 in
theorem c_X12_putAway {l : Launch} {G : GX} (htr : l.stackTraces = false) {σ : St} {a0 : Nat} {x1 : Int32} {x2 : Int32} {Q : Int32 → St → Prop} (ht : tvOk σ [(some a0, 13)]) (hw : w_X12_putAway a0 x1 x2 σ Q) : MI l G 2 σ yX12_putAway cX12_putAway 6 (some .int) 5 0 0 [va_rf (some a0), .int x1, .int x2] Q := by
  unfold w_X12_putAway at hw
  refine m_start RX12 (by decide) htr ht (Nat.le_of_ble_eq_true rfl) rfl (lv := [(0, va_rf (some a0)), (1, .int x1), (2, .int x2)]) (d := 2) (fun p e s m args below meth c X hr hin => ?_)
  refine v_aload_n X 0 rfl (gD D_X12_putAway_0 0 rfl) rfl ?_
  refine v_iload_n X 1 rfl (gD D_X12_putAway_0 1 rfl) rfl ?_
  refine v_callVi X (As := [.int x1]) (rest := []) (nA := 1) 0 0 0 0 (fun ht => c_X12_isLot htr (ht.sub [0] rfl) hw) (Or.inl rfl) 0 (κ := 13) rfl (by decide) (rfl : gCl[12]? = some (RX12, TX12, 65)) lk_vRX12_232 (by decide +kernel) rfl rfl (by decide) (by decide) (by decide) rfl rfl (gD D_X12_putAway_0 2 rfl) (fun x51 s52 hq _ _ => ?_)
  replace hw := hq
  clear hq
  refine v_istore_n X [(3, .int x51), (0, va_rf (some a0)), (1, .int x1), (2, .int x2)] (gD D_X12_putAway_0 3 rfl) rfl (by decide) rfl ?_
  refine v_aload_n X 1 rfl (gD D_X12_putAway_0 4 rfl) rfl ?_
  refine v_iload_n X 0 rfl (gD D_X12_putAway_0 5 rfl) rfl ?_
  refine v_if_ne X 15 (gD D_X12_putAway_0 6 rfl) (by decide) (fun c53 => ?_) (fun c53 => ?_)
  · replace hw := hw.1 c53
    refine v_iload_n X 3 rfl (gD D_X12_putAway_0 9 rfl) rfl ?_
    refine v_callSi X (As := [.int x2]) (rest := [va_rf (some a0)]) (nA := 1) 0 0 0 0 (fun ht => c_X12_arePieces htr (ht.sub [] rfl) hw) (Or.inl rfl) lk_sRX12_244 (by decide +kernel) rfl rfl (by simp [rf_cat, ct_i]) (by decide) (by decide) rfl rfl (gD D_X12_putAway_0 10 rfl) (fun x54 s55 hq _ _ => ?_)
    replace hw := hq
    clear hq
    refine v_if_ne X 26 (gD D_X12_putAway_0 11 rfl) (by decide) (fun c56 => ?_) (fun c56 => ?_)
    · replace hw := hw.1 c56
      refine v_aload_n X 1 rfl (gD D_X12_putAway_0 14 rfl) rfl ?_
      refine v_bipush X 18 (gD D_X12_putAway_0 15 rfl) (by decide) ?_
      refine v_iload_n X 2 rfl (gD D_X12_putAway_0 16 rfl) rfl ?_
      refine v_callVi X (As := [.int 18, .int x1]) (rest := [va_rf (some a0)]) (nA := 2) 0 0 0 0 (fun ht => c_X12_freeAt htr (ht.sub [0] rfl) hw) (Or.inl rfl) 0 (κ := 13) rfl (by decide) (rfl : gCl[12]? = some (RX12, TX12, 65)) lk_vRX12_238 (by decide +kernel) rfl rfl (by simp [rf_cat, ct_i]) (by decide) (by decide) rfl rfl (gD D_X12_putAway_0 17 rfl) (fun x57 s58 hq _ _ => ?_)
      replace hw := hq
      clear hq
      refine v_iload_n X 3 rfl (gD D_X12_putAway_0 18 rfl) rfl ?_
      refine v_icmp_lt X 46 (gD D_X12_putAway_0 19 rfl) (by decide) (fun c59 => ?_) (fun c59 => ?_)
      · replace hw := hw.1 c59
        refine v_iconst X 3 (gD D_X12_putAway_0 24 rfl) (by decide) ?_
        refine v_goto X 51 (gD D_X12_putAway_0 25 rfl) (by decide) ?_
        exact v_sub [0, 0] [1, 2, 3] rfl rfl (t_X12_putAway_51 X hr hin htr  a0 x1 x2 a0 3 s58 hw)
      · replace hw := hw.2 c59
        refine v_aload_n X 1 rfl (gD D_X12_putAway_0 20 rfl) rfl ?_
        refine v_getI X RX12 TX12 65 13 12 (by decide) rfl gin12 45 1245 RX12 (Or.inl rfl) 0 rfl rfl (by decide) lk_fRX12_196 (gD D_X12_putAway_0 21 rfl) ?_
        refine v_bipush X 60 (gD D_X12_putAway_0 22 rfl) (by decide) ?_
        refine v_icmp_ne X 50 (gD D_X12_putAway_0 23 rfl) (by decide) (fun c68 => ?_) (fun c68 => ?_)
        · replace hw := hw.1 c68
          refine v_iconst X 0 (gD D_X12_putAway_0 26 rfl) (by decide) ?_
          exact v_sub [0, 0] [1, 2, 3] rfl rfl (t_X12_putAway_51 X hr hin htr  a0 x1 x2 a0 0 s58 hw)
        · replace hw := hw.2 c68
          refine v_iconst X 3 (gD D_X12_putAway_0 24 rfl) (by decide) ?_
          refine v_goto X 51 (gD D_X12_putAway_0 25 rfl) (by decide) ?_
          exact v_sub [0, 0] [1, 2, 3] rfl rfl (t_X12_putAway_51 X hr hin htr  a0 x1 x2 a0 3 s58 hw)
    · replace hw := hw.2 c56
      refine v_iconst X 2 (gD D_X12_putAway_0 12 rfl) (by decide) ?_
      refine v_goto X 51 (gD D_X12_putAway_0 13 rfl) (by decide) ?_
      exact v_sub [0, 0] [1, 2, 3] rfl rfl (t_X12_putAway_51 X hr hin htr  a0 x1 x2 a0 2 s55 hw)
  · replace hw := hw.2 c53
    refine v_iconst X 1 (gD D_X12_putAway_0 7 rfl) (by decide) ?_
    refine v_goto X 51 (gD D_X12_putAway_0 8 rfl) (by decide) ?_
    exact v_sub [0, 0] [1, 2, 3] rfl rfl (t_X12_putAway_51 X hr hin htr  a0 x1 x2 a0 1 s52 hw)
set_option maxRecDepth 100000 in
set_option maxHeartbeats 4000000 in
theorem t_X12_turns_153 {p : Program} {l : Launch} {e : Env} {s : State} {m : MethodId} {args : Array Value} {below : List Frame} {meth : Method} {c : Code} {G : GX} {σ0 : St} {mc ms : Nat} {Q : St → Prop} (X : VC p l (rmD 5 mc ms) s m args meth c G 5 mc ms 4 RX12 cX12_turns) (hr : meth.sig.returnType = none) (hin : meth.name = yX12_turns.name) (htr : l.stackTraces = false) : ∀ (as0 : Nat) (xs1 : Int32) (xs2 : Int32) (xs3 : Int32) (σ : St), w_X12_turns_153 Q  as0 xs1 xs2 xs3 σ → V p l e (rmD 5 mc ms) s m args below meth c (MQ below (va_Qv Q (gB G 2 σ0) (GA G)) args s mc ms (GA G)) G 2 σ0 mc ms 4 σ 0 0 [(some as0, 13)] 153 [] [.int xs3, .int xs2, .int xs1, va_rf (some as0)] := by
  intro as0 xs1 xs2 xs3 σ hw
  unfold w_X12_turns_153 at hw
  refine v_callVv X (As := [.int xs1, .int xs2, .int xs3]) (rest := []) (nA := 3) 0 0 0 0 (fun ht => c_X12_goesTo htr (ht.sub [0] rfl) hw) (Or.inl rfl) 0 (κ := 13) rfl (by decide) (rfl : gCl[12]? = some (RX12, TX12, 65)) lk_vRX12_324 (by decide +kernel) rfl rfl (by decide) (by decide) (by decide) rfl rfl (gD D_X12_turns_0 92 rfl) (fun s74 hq _ _ => ?_)
  replace hw := hq
  clear hq
  exact v_vret X hr hw (gD D_X12_turns_0 93 rfl)
set_option maxRecDepth 100000 in
set_option maxHeartbeats 4000000 in
theorem t_X12_turns_138 {p : Program} {l : Launch} {e : Env} {s : State} {m : MethodId} {args : Array Value} {below : List Frame} {meth : Method} {c : Code} {G : GX} {σ0 : St} {mc ms : Nat} {Q : St → Prop} (X : VC p l (rmD 5 mc ms) s m args meth c G 5 mc ms 4 RX12 cX12_turns) (hr : meth.sig.returnType = none) (hin : meth.name = yX12_turns.name) (htr : l.stackTraces = false) : ∀ (a0 : Nat) (x2 : Int32) (as0 : Nat) (xs1 : Int32) (xs2 : Int32) (σ : St), w_X12_turns_138 Q  a0 x2 as0 xs1 xs2 σ → V p l e (rmD 5 mc ms) s m args below meth c (MQ below (va_Qv Q (gB G 2 σ0) (GA G)) args s mc ms (GA G)) G 2 σ0 mc ms 4 σ 0 0 [(some a0, 13), (some as0, 13)] 138 [(0, va_rf (some a0)), (2, .int x2)] [.int xs2, .int xs1, va_rf (some as0)] := by
  intro a0 x2 as0 xs1 xs2 σ hw
  unfold w_X12_turns_138 at hw
  refine v_aload_n X 0 rfl (gD D_X12_turns_0 83 rfl) rfl ?_
  refine v_getR X RX12 TX12 65 13 12 (by decide) rfl gin12 48 1248 RX12 (Or.inl rfl) 0 21 rfl rfl rfl (by decide) lk_fRX12_128 (gD D_X12_turns_0 84 rfl) (fun o70 eo70 => ?_)
  replace hw := hw o70 eo70
  refine v_iload_n X 1 rfl (gD D_X12_turns_0 85 rfl) rfl ?_
  obtain ⟨a71, rfl, hw⟩ := hw
  obtain ⟨h72, hw⟩ := hw
  refine v_iald X 0 rfl (by decide) h72 (gD D_X12_turns_0 86 rfl) ?_
  refine v_goto X 153 (gD D_X12_turns_0 87 rfl) (by decide) ?_
  exact v_sub [2] [] rfl rfl (t_X12_turns_153 X hr hin htr  as0 xs1 xs2 (sA σ a71 x2.toNatClampNeg) σ hw)
set_option maxRecDepth 100000 in
set_option maxHeartbeats 4000000 in
theorem t_X12_turns_147 {p : Program} {l : Launch} {e : Env} {s : State} {m : MethodId} {args : Array Value} {below : List Frame} {meth : Method} {c : Code} {G : GX} {σ0 : St} {mc ms : Nat} {Q : St → Prop} (X : VC p l (rmD 5 mc ms) s m args meth c G 5 mc ms 4 RX12 cX12_turns) (hr : meth.sig.returnType = none) (hin : meth.name = yX12_turns.name) (htr : l.stackTraces = false) : ∀ (a0 : Nat) (x2 : Int32) (as0 : Nat) (xs1 : Int32) (xs2 : Int32) (σ : St), w_X12_turns_147 Q  a0 x2 as0 xs1 xs2 σ → V p l e (rmD 5 mc ms) s m args below meth c (MQ below (va_Qv Q (gB G 2 σ0) (GA G)) args s mc ms (GA G)) G 2 σ0 mc ms 4 σ 0 0 [(some a0, 13), (some as0, 13)] 147 [(0, va_rf (some a0)), (2, .int x2)] [.int xs2, .int xs1, va_rf (some as0)] := by
  intro a0 x2 as0 xs1 xs2 σ hw
  unfold w_X12_turns_147 at hw
  refine v_aload_n X 0 rfl (gD D_X12_turns_0 88 rfl) rfl ?_
  refine v_getR X RX12 TX12 65 13 12 (by decide) rfl gin12 49 1249 RX12 (Or.inl rfl) 0 21 rfl rfl rfl (by decide) lk_fRX12_131 (gD D_X12_turns_0 89 rfl) (fun o79 eo79 => ?_)
  replace hw := hw o79 eo79
  refine v_iload_n X 1 rfl (gD D_X12_turns_0 90 rfl) rfl ?_
  obtain ⟨a80, rfl, hw⟩ := hw
  obtain ⟨h81, hw⟩ := hw
  refine v_iald X 0 rfl (by decide) h81 (gD D_X12_turns_0 91 rfl) ?_
  exact v_sub [2] [] rfl rfl (t_X12_turns_153 X hr hin htr  as0 xs1 xs2 (sA σ a80 x2.toNatClampNeg) σ hw)
set_option maxRecDepth 100000 in
set_option maxHeartbeats 4000000 in
theorem t_X12_turns_102 {p : Program} {l : Launch} {e : Env} {s : State} {m : MethodId} {args : Array Value} {below : List Frame} {meth : Method} {c : Code} {G : GX} {σ0 : St} {mc ms : Nat} {Q : St → Prop} (X : VC p l (rmD 5 mc ms) s m args meth c G 5 mc ms 4 RX12 cX12_turns) (hr : meth.sig.returnType = none) (hin : meth.name = yX12_turns.name) (htr : l.stackTraces = false) : ∀ (a0 : Nat) (x1 : Int32) (x2 : Int32) (x3 : Int32) (σ : St), w_X12_turns_102 Q  a0 x1 x2 x3 σ → V p l e (rmD 5 mc ms) s m args below meth c (MQ below (va_Qv Q (gB G 2 σ0) (GA G)) args s mc ms (GA G)) G 2 σ0 mc ms 4 σ 0 0 [(some a0, 13)] 102 [(0, va_rf (some a0)), (1, .int x1), (2, .int x2), (3, .int x3)] [] := by
  intro a0 x1 x2 x3 σ hw
  unfold w_X12_turns_102 at hw
  refine v_iload_n X 3 rfl (gD D_X12_turns_0 61 rfl) rfl ?_
  refine v_if_ne X 156 (gD D_X12_turns_0 62 rfl) (by decide) (fun c65 => ?_) (fun c65 => ?_)
  · replace hw := hw.1 c65
    exact v_vret X hr hw (gD D_X12_turns_0 93 rfl)
  · replace hw := hw.2 c65
    refine v_aload_n X 0 rfl (gD D_X12_turns_0 63 rfl) rfl ?_
    refine v_iload_n X 1 rfl (gD D_X12_turns_0 64 rfl) rfl ?_
    refine v_iload_n X 2 rfl (gD D_X12_turns_0 65 rfl) rfl ?_
    refine v_aload_n X 0 rfl (gD D_X12_turns_0 66 rfl) rfl ?_
    refine v_getR X RX12 TX12 65 13 12 (by decide) rfl gin12 46 1246 RX12 (Or.inl rfl) 0 21 rfl rfl rfl (by decide) lk_fRX12_122 (gD D_X12_turns_0 67 rfl) (fun o66 eo66 => ?_)
    replace hw := hw o66 eo66
    refine v_iload_n X 2 rfl (gD D_X12_turns_0 68 rfl) rfl ?_
    obtain ⟨a67, rfl, hw⟩ := hw
    obtain ⟨h68, hw⟩ := hw
    refine v_iald X 0 rfl (by decide) h68 (gD D_X12_turns_0 69 rfl) ?_
    refine v_iconst X 2 (gD D_X12_turns_0 70 rfl) (by decide) ?_
    refine v_icmp_eq X 138 (gD D_X12_turns_0 71 rfl) (by decide) (fun c69 => ?_) (fun c69 => ?_)
    · replace hw := hw.1 c69
      exact v_sub [1, 1] [0, 2] rfl rfl (t_X12_turns_138 X hr hin htr  a0 x2 a0 x1 x2 σ hw)
    · replace hw := hw.2 c69
      refine v_aload_n X 0 rfl (gD D_X12_turns_0 72 rfl) rfl ?_
      refine v_getR X RX12 TX12 65 13 12 (by decide) rfl gin12 46 1246 RX12 (Or.inl rfl) 1 21 rfl rfl rfl (by decide) lk_fRX12_122 (gD D_X12_turns_0 73 rfl) (fun o75 eo75 => ?_)
      replace hw := hw o75 eo75
      refine v_iload_n X 2 rfl (gD D_X12_turns_0 74 rfl) rfl ?_
      obtain ⟨a76, rfl, hw⟩ := hw
      obtain ⟨h77, hw⟩ := hw
      refine v_iald X 0 rfl (by decide) h77 (gD D_X12_turns_0 75 rfl) ?_
      refine v_iconst X 1 (gD D_X12_turns_0 76 rfl) (by decide) ?_
      refine v_icmp_ne X 147 (gD D_X12_turns_0 77 rfl) (by decide) (fun c78 => ?_) (fun c78 => ?_)
      · replace hw := hw.1 c78
        exact v_sub [2, 2] [0, 2] rfl rfl (t_X12_turns_147 X hr hin htr  a0 x2 a0 x1 x2 σ hw)
      · replace hw := hw.2 c78
        refine v_aload_n X 0 rfl (gD D_X12_turns_0 78 rfl) rfl ?_
        refine v_getR X RX12 TX12 65 13 12 (by decide) rfl gin12 54 1254 RX12 (Or.inl rfl) 2 22 rfl rfl rfl (by decide) lk_fRX12_146 (gD D_X12_turns_0 79 rfl) (fun o82 eo82 => ?_)
        replace hw := hw o82 eo82
        refine v_iload_n X 2 rfl (gD D_X12_turns_0 80 rfl) rfl ?_
        obtain ⟨a83, rfl, hw⟩ := hw
        obtain ⟨h84, hw⟩ := hw
        refine v_zald X 0 rfl rfl h84 (gD D_X12_turns_0 81 rfl) ?_
        refine v_if_ne X 147 (gD D_X12_turns_0 82 rfl) (by decide) (fun c85 => ?_) (fun c85 => ?_)
        · replace hw := hw.1 c85
          exact v_sub [3, 3] [0, 2] rfl rfl (t_X12_turns_147 X hr hin htr  a0 x2 a0 x1 x2 σ hw)
        · replace hw := hw.2 c85
          exact v_sub [3, 3] [0, 2] rfl rfl (t_X12_turns_138 X hr hin htr  a0 x2 a0 x1 x2 σ hw)
set_option maxRecDepth 100000 in
set_option maxHeartbeats 4000000 in
theorem t_X12_turns_83 {p : Program} {l : Launch} {e : Env} {s : State} {m : MethodId} {args : Array Value} {below : List Frame} {meth : Method} {c : Code} {G : GX} {σ0 : St} {mc ms : Nat} {Q : St → Prop} (X : VC p l (rmD 5 mc ms) s m args meth c G 5 mc ms 4 RX12 cX12_turns) (hr : meth.sig.returnType = none) (hin : meth.name = yX12_turns.name) (htr : l.stackTraces = false) : ∀ (a0 : Nat) (x1 : Int32) (x2 : Int32) (x3 : Int32) (σ : St), w_X12_turns_83 Q  a0 x1 x2 x3 σ → V p l e (rmD 5 mc ms) s m args below meth c (MQ below (va_Qv Q (gB G 2 σ0) (GA G)) args s mc ms (GA G)) G 2 σ0 mc ms 4 σ 0 0 [(some a0, 13)] 83 [(0, va_rf (some a0)), (1, .int x1), (2, .int x2), (3, .int x3)] [] := by
  intro a0 x1 x2 x3 σ hw
  unfold w_X12_turns_83 at hw
  refine v_iload_n X 3 rfl (gD D_X12_turns_0 50 rfl) rfl ?_
  refine v_if_eq X 102 (gD D_X12_turns_0 51 rfl) (by decide) (fun c64 => ?_) (fun c64 => ?_)
  · replace hw := hw.1 c64
    exact v_sub [0] [0, 1, 2, 3] rfl rfl (t_X12_turns_102 X hr hin htr  a0 x1 x2 x3 σ hw)
  · replace hw := hw.2 c64
    refine v_iload_n X 2 rfl (gD D_X12_turns_0 52 rfl) rfl ?_
    refine v_iconst X (-1) (gD D_X12_turns_0 53 rfl) (by decide) ?_
    refine v_icmp_eq X 102 (gD D_X12_turns_0 54 rfl) (by decide) (fun c86 => ?_) (fun c86 => ?_)
    · replace hw := hw.1 c86
      exact v_sub [0] [0, 1, 2, 3] rfl rfl (t_X12_turns_102 X hr hin htr  a0 x1 x2 x3 σ hw)
    · replace hw := hw.2 c86
      refine v_aload_n X 0 rfl (gD D_X12_turns_0 55 rfl) rfl ?_
      refine v_getR X RX12 TX12 65 13 12 (by decide) rfl gin12 54 1254 RX12 (Or.inl rfl) 0 22 rfl rfl rfl (by decide) lk_fRX12_146 (gD D_X12_turns_0 56 rfl) (fun o87 eo87 => ?_)
      replace hw := hw o87 eo87
      refine v_iload_n X 2 rfl (gD D_X12_turns_0 57 rfl) rfl ?_
      refine v_iconst X 1 (gD D_X12_turns_0 58 rfl) (by decide) ?_
      obtain ⟨a88, rfl, hw⟩ := hw
      obtain ⟨h89, hw⟩ := hw
      refine v_zast X 0 rfl rfl (Or.inl rfl) h89 (by decide) (gD D_X12_turns_0 59 rfl) (fun s90 es90 => ?_)
      replace hw := hw s90 es90
      refine v_goto X 156 (gD D_X12_turns_0 60 rfl) (by decide) ?_
      exact v_vret X hr hw (gD D_X12_turns_0 93 rfl)
set_option maxRecDepth 100000 in
set_option maxHeartbeats 4000000 in
theorem t_X12_turns_58 {p : Program} {l : Launch} {e : Env} {s : State} {m : MethodId} {args : Array Value} {below : List Frame} {meth : Method} {c : Code} {G : GX} {σ0 : St} {mc ms : Nat} {Q : St → Prop} (X : VC p l (rmD 5 mc ms) s m args meth c G 5 mc ms 4 RX12 cX12_turns) (hr : meth.sig.returnType = none) (hin : meth.name = yX12_turns.name) (htr : l.stackTraces = false) : ∀ (a0 : Nat) (x1 : Int32) (x2 : Int32) (xs0 : Int32) (σ : St), w_X12_turns_58 Q  a0 x1 x2 xs0 σ → V p l e (rmD 5 mc ms) s m args below meth c (MQ below (va_Qv Q (gB G 2 σ0) (GA G)) args s mc ms (GA G)) G 2 σ0 mc ms 4 σ 0 0 [(some a0, 13)] 58 [(0, va_rf (some a0)), (1, .int x1), (2, .int x2)] [.int xs0] := by
  intro a0 x1 x2 xs0 σ hw
  unfold w_X12_turns_58 at hw
  refine v_istore_n X [(3, .int xs0), (0, va_rf (some a0)), (1, .int x1), (2, .int x2)] (gD D_X12_turns_0 35 rfl) rfl (by decide) rfl ?_
  refine v_iload_n X 0 rfl (gD D_X12_turns_0 36 rfl) rfl ?_
  refine v_if_eq X 83 (gD D_X12_turns_0 37 rfl) (by decide) (fun c63 => ?_) (fun c63 => ?_)
  · replace hw := hw.1 c63
    exact v_sub [0] [1, 2, 3, 0] rfl rfl (t_X12_turns_83 X hr hin htr  a0 x1 x2 xs0 σ hw)
  · replace hw := hw.2 c63
    refine v_aload_n X 1 rfl (gD D_X12_turns_0 38 rfl) rfl ?_
    refine v_getR X RX12 TX12 65 13 12 (by decide) rfl gin12 55 1255 RX12 (Or.inl rfl) 0 21 rfl rfl rfl (by decide) lk_fRX12_149 (gD D_X12_turns_0 39 rfl) (fun o91 eo91 => ?_)
    replace hw := hw o91 eo91
    refine v_iload_n X 2 rfl (gD D_X12_turns_0 40 rfl) rfl ?_
    obtain ⟨a92, rfl, hw⟩ := hw
    obtain ⟨h93, hw⟩ := hw
    refine v_iald X 0 rfl (by decide) h93 (gD D_X12_turns_0 41 rfl) ?_
    refine v_iconst X (-1) (gD D_X12_turns_0 42 rfl) (by decide) ?_
    refine v_icmp_eq X 83 (gD D_X12_turns_0 43 rfl) (by decide) (fun c94 => ?_) (fun c94 => ?_)
    · replace hw := hw.1 c94
      exact v_sub [1] [1, 2, 3, 0] rfl rfl (t_X12_turns_83 X hr hin htr  a0 x1 x2 xs0 σ hw)
    · replace hw := hw.2 c94
      refine v_aload_n X 1 rfl (gD D_X12_turns_0 44 rfl) rfl ?_
      refine v_getR X RX12 TX12 65 13 12 (by decide) rfl gin12 55 1255 RX12 (Or.inl rfl) 1 21 rfl rfl rfl (by decide) lk_fRX12_149 (gD D_X12_turns_0 45 rfl) (fun o95 eo95 => ?_)
      replace hw := hw o95 eo95
      refine v_iload_n X 2 rfl (gD D_X12_turns_0 46 rfl) rfl ?_
      refine v_iconst X (-1) (gD D_X12_turns_0 47 rfl) (by decide) ?_
      obtain ⟨a96, rfl, hw⟩ := hw
      obtain ⟨h97, hw⟩ := hw
      refine v_iast X 0 rfl (by decide) (Or.inl rfl) h97 (gD D_X12_turns_0 48 rfl) (fun s98 es98 => ?_)
      replace hw := hw s98 es98
      refine v_goto X 156 (gD D_X12_turns_0 49 rfl) (by decide) ?_
      exact v_vret X hr hw (gD D_X12_turns_0 93 rfl)
set_option maxRecDepth 100000 in
set_option maxHeartbeats 4000000 in
theorem t_X12_turns_57 {p : Program} {l : Launch} {e : Env} {s : State} {m : MethodId} {args : Array Value} {below : List Frame} {meth : Method} {c : Code} {G : GX} {σ0 : St} {mc ms : Nat} {Q : St → Prop} (X : VC p l (rmD 5 mc ms) s m args meth c G 5 mc ms 4 RX12 cX12_turns) (hr : meth.sig.returnType = none) (hin : meth.name = yX12_turns.name) (htr : l.stackTraces = false) : ∀ (a0 : Nat) (x1 : Int32) (x2 : Int32) (σ : St), w_X12_turns_57 Q  a0 x1 x2 σ → V p l e (rmD 5 mc ms) s m args below meth c (MQ below (va_Qv Q (gB G 2 σ0) (GA G)) args s mc ms (GA G)) G 2 σ0 mc ms 4 σ 0 0 [(some a0, 13)] 57 [(0, va_rf (some a0)), (1, .int x1), (2, .int x2)] [] := by
  intro a0 x1 x2 σ hw
  unfold w_X12_turns_57 at hw
  refine v_iconst X 0 (gD D_X12_turns_0 34 rfl) (by decide) ?_
  exact v_sub [0] [0, 1, 2] rfl rfl (t_X12_turns_58 X hr hin htr  a0 x1 x2 0 σ hw)
set_option maxRecDepth 100000 in
set_option maxHeartbeats 4000000 in
theorem t_X12_turns_29 {p : Program} {l : Launch} {e : Env} {s : State} {m : MethodId} {args : Array Value} {below : List Frame} {meth : Method} {c : Code} {G : GX} {σ0 : St} {mc ms : Nat} {Q : St → Prop} (X : VC p l (rmD 5 mc ms) s m args meth c G 5 mc ms 4 RX12 cX12_turns) (hr : meth.sig.returnType = none) (hin : meth.name = yX12_turns.name) (htr : l.stackTraces = false) : ∀ (a0 : Nat) (x1 : Int32) (xs0 : Int32) (σ : St), w_X12_turns_29 Q  a0 x1 xs0 σ → V p l e (rmD 5 mc ms) s m args below meth c (MQ below (va_Qv Q (gB G 2 σ0) (GA G)) args s mc ms (GA G)) G 2 σ0 mc ms 4 σ 0 0 [(some a0, 13)] 29 [(0, va_rf (some a0)), (1, .int x1)] [.int xs0] := by
  intro a0 x1 xs0 σ hw
  unfold w_X12_turns_29 at hw
  refine v_istore_n X [(2, .int xs0), (0, va_rf (some a0)), (1, .int x1)] (gD D_X12_turns_0 18 rfl) rfl (by decide) rfl ?_
  refine v_iload_n X 0 rfl (gD D_X12_turns_0 19 rfl) rfl ?_
  refine v_iconst X (-1) (gD D_X12_turns_0 20 rfl) (by decide) ?_
  refine v_icmp_eq X 53 (gD D_X12_turns_0 21 rfl) (by decide) (fun c62 => ?_) (fun c62 => ?_)
  · replace hw := hw.1 c62
    refine v_iconst X 1 (gD D_X12_turns_0 32 rfl) (by decide) ?_
    refine v_goto X 58 (gD D_X12_turns_0 33 rfl) (by decide) ?_
    exact v_sub [0] [1, 2, 0] rfl rfl (t_X12_turns_58 X hr hin htr  a0 x1 xs0 1 σ hw)
  · replace hw := hw.2 c62
    refine v_aload_n X 1 rfl (gD D_X12_turns_0 22 rfl) rfl ?_
    refine v_getR X RX12 TX12 65 13 12 (by decide) rfl gin12 46 1246 RX12 (Or.inl rfl) 0 21 rfl rfl rfl (by decide) lk_fRX12_122 (gD D_X12_turns_0 23 rfl) (fun o99 eo99 => ?_)
    replace hw := hw o99 eo99
    refine v_iload_n X 0 rfl (gD D_X12_turns_0 24 rfl) rfl ?_
    obtain ⟨a100, rfl, hw⟩ := hw
    obtain ⟨h101, hw⟩ := hw
    refine v_iald X 0 rfl (by decide) h101 (gD D_X12_turns_0 25 rfl) ?_
    refine v_if_ne X 57 (gD D_X12_turns_0 26 rfl) (by decide) (fun c102 => ?_) (fun c102 => ?_)
    · replace hw := hw.1 c102
      exact v_sub [1] [1, 2, 0] rfl rfl (t_X12_turns_57 X hr hin htr  a0 x1 xs0 σ hw)
    · replace hw := hw.2 c102
      refine v_aload_n X 1 rfl (gD D_X12_turns_0 27 rfl) rfl ?_
      refine v_getR X RX12 TX12 65 13 12 (by decide) rfl gin12 54 1254 RX12 (Or.inl rfl) 1 22 rfl rfl rfl (by decide) lk_fRX12_146 (gD D_X12_turns_0 28 rfl) (fun o103 eo103 => ?_)
      replace hw := hw o103 eo103
      refine v_iload_n X 0 rfl (gD D_X12_turns_0 29 rfl) rfl ?_
      obtain ⟨a104, rfl, hw⟩ := hw
      obtain ⟨h105, hw⟩ := hw
      refine v_zald X 0 rfl rfl h105 (gD D_X12_turns_0 30 rfl) ?_
      refine v_if_ne X 57 (gD D_X12_turns_0 31 rfl) (by decide) (fun c106 => ?_) (fun c106 => ?_)
      · replace hw := hw.1 c106
        exact v_sub [2] [1, 2, 0] rfl rfl (t_X12_turns_57 X hr hin htr  a0 x1 xs0 σ hw)
      · replace hw := hw.2 c106
        refine v_iconst X 1 (gD D_X12_turns_0 32 rfl) (by decide) ?_
        refine v_goto X 58 (gD D_X12_turns_0 33 rfl) (by decide) ?_
        exact v_sub [2] [1, 2, 0] rfl rfl (t_X12_turns_58 X hr hin htr  a0 x1 xs0 1 σ hw)
set_option maxRecDepth 100000 in
set_option maxHeartbeats 4000000 in
theorem c_X12_turns {l : Launch} {G : GX} (htr : l.stackTraces = false) {σ : St} {a0 : Nat} {x1 : Int32} {Q : St → Prop} (ht : tvOk σ [(some a0, 13)]) (hw : w_X12_turns a0 x1 σ Q) : MV l G 2 σ yX12_turns cX12_turns 4 5 0 0 [va_rf (some a0), .int x1] Q := by
  unfold w_X12_turns at hw
  refine m_start RX12 (by decide) htr ht (Nat.le_of_ble_eq_true rfl) rfl (lv := [(0, va_rf (some a0)), (1, .int x1)]) (d := 2) (fun p e s m args below meth c X hr hin => ?_)
  refine v_aload_n X 0 rfl (gD D_X12_turns_0 0 rfl) rfl ?_
  refine v_getR X RX12 TX12 65 13 12 (by decide) rfl gin12 57 1257 RX12 (Or.inl rfl) 0 21 rfl rfl rfl (by decide) lk_fRX12_155 (gD D_X12_turns_0 1 rfl) (fun o51 eo51 => ?_)
  replace hw := hw o51 eo51
  refine v_iload_n X 1 rfl (gD D_X12_turns_0 2 rfl) rfl ?_
  refine v_iconst X (-1) (gD D_X12_turns_0 3 rfl) (by decide) ?_
  obtain ⟨a52, rfl, hw⟩ := hw
  obtain ⟨h53, hw⟩ := hw
  refine v_iast X 0 rfl (by decide) (Or.inl rfl) h53 (gD D_X12_turns_0 4 rfl) (fun s54 es54 => ?_)
  replace hw := hw s54 es54
  refine v_aload_n X 0 rfl (gD D_X12_turns_0 5 rfl) rfl ?_
  refine v_getR X RX12 TX12 65 13 12 (by decide) rfl gin12 59 1259 RX12 (Or.inl rfl) 1 21 rfl rfl rfl (by decide) lk_fRX12_161 (gD D_X12_turns_0 6 rfl) (fun o55 eo55 => ?_)
  replace hw := hw o55 eo55
  refine v_iload_n X 1 rfl (gD D_X12_turns_0 7 rfl) rfl ?_
  obtain ⟨a56, rfl, hw⟩ := hw
  obtain ⟨h57, hw⟩ := hw
  refine v_iald X 0 rfl (by decide) h57 (gD D_X12_turns_0 8 rfl) ?_
  refine v_if_ne X 20 (gD D_X12_turns_0 9 rfl) (by decide) (fun c58 => ?_) (fun c58 => ?_)
  · replace hw := hw.1 c58
    refine v_aload_n X 0 rfl (gD D_X12_turns_0 12 rfl) rfl ?_
    refine v_getR X RX12 TX12 65 13 12 (by decide) rfl gin12 58 1258 RX12 (Or.inl rfl) 2 21 rfl rfl rfl (by decide) lk_fRX12_158 (gD D_X12_turns_0 13 rfl) (fun o59 eo59 => ?_)
    replace hw := hw o59 eo59
    refine v_bipush X 60 (gD D_X12_turns_0 14 rfl) (by decide) ?_
    refine v_iload_n X 1 rfl (gD D_X12_turns_0 15 rfl) rfl ?_
    refine v_imul X (gD D_X12_turns_0 16 rfl) ?_
    obtain ⟨a60, rfl, hw⟩ := hw
    obtain ⟨h61, hw⟩ := hw
    refine v_iald X 0 rfl (by decide) h61 (gD D_X12_turns_0 17 rfl) ?_
    exact v_sub [3] [0, 1] rfl rfl (t_X12_turns_29 X hr hin htr  a0 x1 (sA s54 a60 (60 * x1).toNatClampNeg) s54 hw)
  · replace hw := hw.2 c58
    refine v_iconst X (-1) (gD D_X12_turns_0 10 rfl) (by decide) ?_
    refine v_goto X 29 (gD D_X12_turns_0 11 rfl) (by decide) ?_
    exact v_sub [2] [0, 1] rfl rfl (t_X12_turns_29 X hr hin htr  a0 x1 (-1) s54 hw)
set_option maxRecDepth 100000 in
set_option maxHeartbeats 4000000 in
theorem t_X12_ticks_32 {p : Program} {l : Launch} {e : Env} {s : State} {m : MethodId} {args : Array Value} {below : List Frame} {meth : Method} {c : Code} {G : GX} {σ0 : St} {mc ms : Nat} {Q : St → Prop} (X : VC p l (rmD 6 mc ms) s m args meth c G 6 mc ms 3 RX12 cX12_ticks) (hr : meth.sig.returnType = none) (hin : meth.name = yX12_ticks.name) (htr : l.stackTraces = false) : ∀ (f : Nat) (a0 : Nat) (x1 : Int32) (x2 : Int32) (σ : St), w_X12_ticks_32 Q  f a0 x1 x2 σ → V p l e (rmD 6 mc ms) s m args below meth c (MQ below (va_Qv Q (gB G 2 σ0) (GA G)) args s mc ms (GA G)) G 2 σ0 mc ms 3 σ 0 0 [(some a0, 13)] 32 [(0, va_rf (some a0)), (1, .int x1), (2, .int x2)] [] := by
  intro f
  induction f with
  | zero => intro a0 x1 x2 σ hw; exact hw.elim
  | succ f ih =>
    intro a0 x1 x2 σ hw
    unfold w_X12_ticks_32 at hw
    refine v_iload_n X 2 rfl (gD D_X12_ticks_0 20 rfl) rfl ?_
    refine v_iconst X 3 (gD D_X12_ticks_0 21 rfl) (by decide) ?_
    refine v_icmp_ge X 57 (gD D_X12_ticks_0 22 rfl) (by decide) (fun c53 => ?_) (fun c53 => ?_)
    · replace hw := hw.1 c53
      refine v_iload_n X 1 rfl (gD D_X12_ticks_0 33 rfl) rfl ?_
      refine v_iconst X (-1) (gD D_X12_ticks_0 34 rfl) (by decide) ?_
      refine v_icmp_eq X 79 (gD D_X12_ticks_0 35 rfl) (by decide) (fun c54 => ?_) (fun c54 => ?_)
      · replace hw := hw.1 c54
        exact v_vret X hr hw (gD D_X12_ticks_0 47 rfl)
      · replace hw := hw.2 c54
        refine v_aload_n X 0 rfl (gD D_X12_ticks_0 36 rfl) rfl ?_
        refine v_getR X RX12 TX12 65 13 12 (by decide) rfl gin12 55 1255 RX12 (Or.inl rfl) 0 21 rfl rfl rfl (by decide) lk_fRX12_149 (gD D_X12_ticks_0 37 rfl) (fun o55 eo55 => ?_)
        replace hw := hw o55 eo55
        refine v_iload_n X 1 rfl (gD D_X12_ticks_0 38 rfl) rfl ?_
        refine v_iconst X (-1) (gD D_X12_ticks_0 39 rfl) (by decide) ?_
        obtain ⟨a56, rfl, hw⟩ := hw
        obtain ⟨h57, hw⟩ := hw
        refine v_iast X 0 rfl (by decide) (Or.inl rfl) h57 (gD D_X12_ticks_0 40 rfl) (fun s58 es58 => ?_)
        replace hw := hw s58 es58
        refine v_aload_n X 0 rfl (gD D_X12_ticks_0 41 rfl) rfl ?_
        refine v_dup X (gD D_X12_ticks_0 42 rfl) (rf_cat _) ?_
        refine v_getI X RX12 TX12 65 13 12 (by decide) rfl gin12 3 1203 RX12 (Or.inl rfl) 1 rfl rfl (by decide) lk_fRX12_359 (gD D_X12_ticks_0 43 rfl) ?_
        refine v_iconst X 1 (gD D_X12_ticks_0 44 rfl) (by decide) ?_
        refine v_iadd X (gD D_X12_ticks_0 45 rfl) ?_
        refine v_putI X RX12 TX12 65 13 12 (by decide) rfl gin12 3 1203 tyX12 tyX12_ok nmX12 RX12 (Or.inl rfl) 1 rfl .int (int_fit _) rfl (by decide) (Or.inl rfl) lk_fRX12_359 rfl rfl (gD D_X12_ticks_0 46 rfl) (fun s59 es59 => ?_)
        replace hw := hw s59 es59
        exact v_vret X hr hw (gD D_X12_ticks_0 47 rfl)
    · replace hw := hw.2 c53
      refine v_aload_n X 0 rfl (gD D_X12_ticks_0 23 rfl) rfl ?_
      refine v_iload_n X 2 rfl (gD D_X12_ticks_0 24 rfl) rfl ?_
      refine v_callVi X (As := [.int x2]) (rest := []) (nA := 1) 0 0 0 0 (fun ht => c_X12_isInRing htr (ht.sub [0] rfl) hw) (Or.inl rfl) 0 (κ := 13) rfl (by decide) (rfl : gCl[12]? = some (RX12, TX12, 65)) lk_vRX12_356 (by decide +kernel) rfl rfl (by decide) (by decide) (by decide) rfl rfl (gD D_X12_ticks_0 25 rfl) (fun x60 s61 hq _ _ => ?_)
      replace hw := hq
      clear hq
      refine v_if_eq X 49 (gD D_X12_ticks_0 26 rfl) (by decide) (fun c62 => ?_) (fun c62 => ?_)
      · replace hw := hw.1 c62
        refine v_iload_n X 1 rfl (gD D_X12_ticks_0 29 rfl) rfl ?_
        refine v_istore_n X [(1, .int x1), (0, va_rf (some a0)), (2, .int x2)] (gD D_X12_ticks_0 30 rfl) rfl (by decide) rfl ?_
        refine v_iinc X (x2 + 1) 2 rfl [(2, .int (x2 + 1)), (1, .int x1), (0, va_rf (some a0))] (gD D_X12_ticks_0 31 rfl) rfl (by decide) rfl ?_
        refine v_goto X 32 (gD D_X12_ticks_0 32 rfl) (by decide) ?_
        exact v_sub [0] [2, 1, 0] rfl rfl (ih a0 x1 (x2 + 1) s61 hw)
      · replace hw := hw.2 c62
        refine v_iload_n X 2 rfl (gD D_X12_ticks_0 27 rfl) rfl ?_
        refine v_goto X 50 (gD D_X12_ticks_0 28 rfl) (by decide) ?_
        refine v_istore_n X [(1, .int x2), (0, va_rf (some a0)), (2, .int x2)] (gD D_X12_ticks_0 30 rfl) rfl (by decide) rfl ?_
        refine v_iinc X (x2 + 1) 2 rfl [(2, .int (x2 + 1)), (1, .int x2), (0, va_rf (some a0))] (gD D_X12_ticks_0 31 rfl) rfl (by decide) rfl ?_
        refine v_goto X 32 (gD D_X12_ticks_0 32 rfl) (by decide) ?_
        exact v_sub [0] [2, 1, 0] rfl rfl (ih a0 x2 (x2 + 1) s61 hw)
set_option maxRecDepth 100000 in
set_option maxHeartbeats 4000000 in
theorem t_X12_ticks_12 {p : Program} {l : Launch} {e : Env} {s : State} {m : MethodId} {args : Array Value} {below : List Frame} {meth : Method} {c : Code} {G : GX} {σ0 : St} {mc ms : Nat} {Q : St → Prop} (X : VC p l (rmD 6 mc ms) s m args meth c G 6 mc ms 3 RX12 cX12_ticks) (hr : meth.sig.returnType = none) (hin : meth.name = yX12_ticks.name) (htr : l.stackTraces = false) : ∀ (f : Nat) (a0 : Nat) (x1 : Int32) (σ : St), w_X12_ticks_12 Q  f a0 x1 σ → V p l e (rmD 6 mc ms) s m args below meth c (MQ below (va_Qv Q (gB G 2 σ0) (GA G)) args s mc ms (GA G)) G 2 σ0 mc ms 3 σ 0 0 [(some a0, 13)] 12 [(0, va_rf (some a0)), (1, .int x1)] [] := by
  intro f
  induction f with
  | zero => intro a0 x1 σ hw; exact hw.elim
  | succ f ih =>
    intro a0 x1 σ hw
    unfold w_X12_ticks_12 at hw
    refine v_iload_n X 1 rfl (gD D_X12_ticks_0 8 rfl) rfl ?_
    refine v_iconst X 3 (gD D_X12_ticks_0 9 rfl) (by decide) ?_
    refine v_icmp_ge X 28 (gD D_X12_ticks_0 10 rfl) (by decide) (fun c52 => ?_) (fun c52 => ?_)
    · replace hw := hw.1 c52
      refine v_iconst X (-1) (gD D_X12_ticks_0 16 rfl) (by decide) ?_
      refine v_istore_n X [(1, .int (-1)), (0, va_rf (some a0))] (gD D_X12_ticks_0 17 rfl) rfl (by decide) rfl ?_
      refine v_iconst X 0 (gD D_X12_ticks_0 18 rfl) (by decide) ?_
      refine v_istore_n X [(2, .int 0), (1, .int (-1)), (0, va_rf (some a0))] (gD D_X12_ticks_0 19 rfl) rfl (by decide) rfl ?_
      obtain ⟨f63, hw⟩ := hw
      exact v_sub [0] [2, 1, 0] rfl rfl (t_X12_ticks_32 X hr hin htr  f63 a0 (-1) 0 σ hw)
    · replace hw := hw.2 c52
      refine v_aload_n X 0 rfl (gD D_X12_ticks_0 11 rfl) rfl ?_
      refine v_iload_n X 1 rfl (gD D_X12_ticks_0 12 rfl) rfl ?_
      refine v_callVv X (As := [.int x1]) (rest := []) (nA := 1) 0 0 0 0 (fun ht => c_X12_turns htr (ht.sub [0] rfl) hw) (Or.inl rfl) 0 (κ := 13) rfl (by decide) (rfl : gCl[12]? = some (RX12, TX12, 65)) lk_vRX12_353 (by decide +kernel) rfl rfl (by decide) (by decide) (by decide) rfl rfl (gD D_X12_ticks_0 13 rfl) (fun s65 hq _ _ => ?_)
      replace hw := hq
      clear hq
      refine v_iinc X (x1 + 1) 1 rfl [(1, .int (x1 + 1)), (0, va_rf (some a0))] (gD D_X12_ticks_0 14 rfl) rfl (by decide) rfl ?_
      refine v_goto X 12 (gD D_X12_ticks_0 15 rfl) (by decide) ?_
      exact v_sub [0] [1, 0] rfl rfl (ih a0 (x1 + 1) s65 hw)
set_option maxRecDepth 100000 in
set_option maxHeartbeats 4000000 in
theorem c_X12_ticks {l : Launch} {G : GX} (htr : l.stackTraces = false) {σ : St} {a0 : Nat} {Q : St → Prop} (ht : tvOk σ [(some a0, 13)]) (hw : w_X12_ticks a0 σ Q) : MV l G 2 σ yX12_ticks cX12_ticks 3 6 0 0 [va_rf (some a0)] Q := by
  unfold w_X12_ticks at hw
  refine m_start RX12 (by decide) htr ht (Nat.le_of_ble_eq_true rfl) rfl (lv := [(0, va_rf (some a0))]) (d := 2) (fun p e s m args below meth c X hr hin => ?_)
  refine v_aload_n X 0 rfl (gD D_X12_ticks_0 0 rfl) rfl ?_
  refine v_dup X (gD D_X12_ticks_0 1 rfl) (rf_cat _) ?_
  refine v_getI X RX12 TX12 65 13 12 (by decide) rfl gin12 1 1201 RX12 (Or.inl rfl) 0 rfl rfl (by decide) lk_fRX12_293 (gD D_X12_ticks_0 2 rfl) ?_
  refine v_iconst X 1 (gD D_X12_ticks_0 3 rfl) (by decide) ?_
  refine v_iadd X (gD D_X12_ticks_0 4 rfl) ?_
  refine v_putI X RX12 TX12 65 13 12 (by decide) rfl gin12 1 1201 tyX12 tyX12_ok nmX12 RX12 (Or.inl rfl) 0 rfl .int (int_fit _) rfl (by decide) (Or.inl rfl) lk_fRX12_293 rfl rfl (gD D_X12_ticks_0 5 rfl) (fun s51 es51 => ?_)
  replace hw := hw s51 es51
  refine v_iconst X 0 (gD D_X12_ticks_0 6 rfl) (by decide) ?_
  refine v_istore_n X [(1, .int 0), (0, va_rf (some a0))] (gD D_X12_ticks_0 7 rfl) rfl (by decide) rfl ?_
  obtain ⟨f66, hw⟩ := hw
  exact v_sub [0] [1, 0] rfl rfl (t_X12_ticks_12 X hr hin htr  f66 a0 0 s51 hw)
set_option maxRecDepth 100000 in
set_option maxHeartbeats 4000000 in
theorem t_X12_pass_26 {p : Program} {l : Launch} {e : Env} {s : State} {m : MethodId} {args : Array Value} {below : List Frame} {meth : Method} {c : Code} {G : GX} {σ0 : St} {mc ms : Nat} {Q : Int32 → St → Prop} (X : VC p l (rmD 7 mc ms) s m args meth c G 7 mc ms 3 RX12 cX12_pass) (hr : meth.sig.returnType = (some .int)) (hin : meth.name = yX12_pass.name) (htr : l.stackTraces = false) : ∀ (f : Nat) (a0 : Nat) (x1 : Int32) (x2 : Int32) (σ : St), w_X12_pass_26 Q  f a0 x1 x2 σ → V p l e (rmD 7 mc ms) s m args below meth c (MQ below (va_Qi Q (gB G 2 σ0) (GA G)) args s mc ms (GA G)) G 2 σ0 mc ms 3 σ 0 0 [(some a0, 13)] 26 [(0, va_rf (some a0)), (1, .int x1), (2, .int x2)] [] := by
  intro f
  induction f with
  | zero => intro a0 x1 x2 σ hw; exact hw.elim
  | succ f ih =>
    intro a0 x1 x2 σ hw
    unfold w_X12_pass_26 at hw
    refine v_iload_n X 2 rfl (gD D_X12_pass_0 15 rfl) rfl ?_
    refine v_iload_n X 1 rfl (gD D_X12_pass_0 16 rfl) rfl ?_
    refine v_icmp_ge X 41 (gD D_X12_pass_0 17 rfl) (by decide) (fun c57 => ?_) (fun c57 => ?_)
    · replace hw := hw.1 c57
      refine v_aload_n X 0 rfl (gD D_X12_pass_0 22 rfl) rfl ?_
      refine v_getI X RX12 TX12 65 13 12 (by decide) rfl gin12 1 1201 RX12 (Or.inl rfl) 0 rfl rfl (by decide) lk_fRX12_293 (gD D_X12_pass_0 23 rfl) ?_
      exact v_iret X hr hw (gD D_X12_pass_0 24 rfl)
    · replace hw := hw.2 c57
      refine v_aload_n X 0 rfl (gD D_X12_pass_0 18 rfl) rfl ?_
      refine v_callVv X (As := []) (rest := []) (nA := 0) 0 0 0 0 (fun ht => c_X12_ticks htr (ht.sub [0] rfl) hw) (Or.inl rfl) 0 (κ := 13) rfl (by decide) (rfl : gCl[12]? = some (RX12, TX12, 65)) lk_vRX12_362 (by decide +kernel) rfl rfl (by decide) (by decide) (by decide) rfl rfl (gD D_X12_pass_0 19 rfl) (fun s59 hq _ _ => ?_)
      replace hw := hq
      clear hq
      refine v_iinc X (x2 + 1) 2 rfl [(2, .int (x2 + 1)), (0, va_rf (some a0)), (1, .int x1)] (gD D_X12_pass_0 20 rfl) rfl (by decide) rfl ?_
      refine v_goto X 26 (gD D_X12_pass_0 21 rfl) (by decide) ?_
      exact v_sub [0] [1, 2, 0] rfl rfl (ih a0 x1 (x2 + 1) s59 hw)
set_option maxRecDepth 100000 in
set_option maxHeartbeats 4000000 in
theorem t_X12_pass_16 {p : Program} {l : Launch} {e : Env} {s : State} {m : MethodId} {args : Array Value} {below : List Frame} {meth : Method} {c : Code} {G : GX} {σ0 : St} {mc ms : Nat} {Q : Int32 → St → Prop} (X : VC p l (rmD 7 mc ms) s m args meth c G 7 mc ms 3 RX12 cX12_pass) (hr : meth.sig.returnType = (some .int)) (hin : meth.name = yX12_pass.name) (htr : l.stackTraces = false) : ∀ (a0 : Nat) (x1 : Int32) (as0 : Nat) (xs1 : Int32) (σ : St), w_X12_pass_16 Q  a0 x1 as0 xs1 σ → V p l e (rmD 7 mc ms) s m args below meth c (MQ below (va_Qi Q (gB G 2 σ0) (GA G)) args s mc ms (GA G)) G 2 σ0 mc ms 3 σ 0 0 [(some a0, 13), (some as0, 13)] 16 [(0, va_rf (some a0)), (1, .int x1)] [.int xs1, va_rf (some as0)] := by
  intro a0 x1 as0 xs1 σ hw
  unfold w_X12_pass_16 at hw
  refine v_callVi X (As := [.int xs1]) (rest := []) (nA := 1) 0 0 0 0 (fun ht => c_X12_holds htr (ht.sub [1] rfl) hw) (Or.inl rfl) 1 (κ := 13) rfl (by decide) (rfl : gCl[12]? = some (RX12, TX12, 65)) lk_vRX12_223 (by decide +kernel) rfl rfl (by decide) (by decide) (by decide) rfl rfl (gD D_X12_pass_0 9 rfl) (fun x54 s55 hq _ _ => ?_)
  replace hw := hq
  clear hq
  refine v_if_ne X 24 (gD D_X12_pass_0 10 rfl) (by decide) (fun c56 => ?_) (fun c56 => ?_)
  · replace hw := hw.1 c56
    refine v_iconst X 0 (gD D_X12_pass_0 13 rfl) (by decide) ?_
    refine v_istore_n X [(2, .int 0), (0, va_rf (some a0)), (1, .int x1)] (gD D_X12_pass_0 14 rfl) rfl (by decide) rfl ?_
    obtain ⟨f60, hw⟩ := hw
    exact v_sub [0] [1, 2, 0] rfl rfl (t_X12_pass_26 X hr hin htr  f60 a0 x1 0 s55 hw)
  · replace hw := hw.2 c56
    refine v_iconst X 0 (gD D_X12_pass_0 11 rfl) (by decide) ?_
    exact v_iret X hr hw (gD D_X12_pass_0 12 rfl)
set_option maxRecDepth 100000 in
set_option maxHeartbeats 4000000 in
theorem c_X12_pass {l : Launch} {G : GX} (htr : l.stackTraces = false) {σ : St} {a0 : Nat} {x1 : Int32} {Q : Int32 → St → Prop} (ht : tvOk σ [(some a0, 13)]) (hw : w_X12_pass a0 x1 σ Q) : MI l G 2 σ yX12_pass cX12_pass 3 (some .int) 7 0 0 [va_rf (some a0), .int x1] Q := by
  unfold w_X12_pass at hw
  refine m_start RX12 (by decide) htr ht (Nat.le_of_ble_eq_true rfl) rfl (lv := [(0, va_rf (some a0)), (1, .int x1)]) (d := 2) (fun p e s m args below meth c X hr hin => ?_)
  refine v_aload_n X 0 rfl (gD D_X12_pass_0 0 rfl) rfl ?_
  refine v_iload_n X 1 rfl (gD D_X12_pass_0 1 rfl) rfl ?_
  refine v_iconst X 1 (gD D_X12_pass_0 2 rfl) (by decide) ?_
  refine v_bipush X 50 (gD D_X12_pass_0 3 rfl) (by decide) ?_
  refine v_callSi X (As := [.int x1, .int 1, .int 50]) (rest := [va_rf (some a0)]) (nA := 3) 0 0 0 0 (fun ht => c_X12_isIn htr (ht.sub [] rfl) hw) (Or.inl rfl) lk_sRX12_183 (by decide +kernel) rfl rfl (by simp [rf_cat, ct_i]) (by decide) (by decide) rfl rfl (gD D_X12_pass_0 4 rfl) (fun x51 s52 hq _ _ => ?_)
  replace hw := hq
  clear hq
  refine v_if_eq X 15 (gD D_X12_pass_0 5 rfl) (by decide) (fun c53 => ?_) (fun c53 => ?_)
  · replace hw := hw.1 c53
    refine v_iconst X 1 (gD D_X12_pass_0 8 rfl) (by decide) ?_
    exact v_sub [0, 0] [0, 1] rfl rfl (t_X12_pass_16 X hr hin htr  a0 x1 a0 1 s52 hw)
  · replace hw := hw.2 c53
    refine v_iconst X 0 (gD D_X12_pass_0 6 rfl) (by decide) ?_
    refine v_goto X 16 (gD D_X12_pass_0 7 rfl) (by decide) ?_
    exact v_sub [0, 0] [0, 1] rfl rfl (t_X12_pass_16 X hr hin htr  a0 x1 a0 0 s52 hw)
