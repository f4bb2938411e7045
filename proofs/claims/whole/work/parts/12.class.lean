set_option maxRecDepth 100000 in
set_option maxHeartbeats 4000000 in
theorem t_X0_madeAnew_66 {p : Program} {l : Launch} {e : Env} {s : State} {m : MethodId} {args : Array Value} {below : List Frame} {meth : Method} {c : Code} {G : GX} {σ0 : St} {mc ms : Nat} {Q : Int32 → St → Prop} (X : VC p l (rmD 0 mc ms) s m args meth c G 0 mc ms 5 RX0 cX0_madeAnew) (hr : meth.sig.returnType = (some .int)) (hin : meth.name = yX0_madeAnew.name) (htr : l.stackTraces = false) {K5 : Nat → Int32 → Int32 → Int32 → Int32 → St → Prop} (hK5 : ∀ (a0 : Nat) (x1 : Int32) (x2 : Int32) (x3 : Int32) (x4 : Int32) (σ : St), K5 a0 x1 x2 x3 x4 σ → V p l e (rmD 0 mc ms) s m args below meth c (MQ below (va_Qi Q (gB G 1 σ0) (GA G)) args s mc ms (GA G)) G 1 σ0 mc ms 5 σ 0 0 [(some a0, 1)] 5 [(0, va_rf (some a0)), (1, .int x1), (2, .int x2), (3, .int x3), (4, .int x4)] []) : ∀ (a0 : Nat) (x1 : Int32) (x2 : Int32) (x4 : Int32) (xs0 : Int32) (xs1 : Int32) (σ : St), w_X0_madeAnew_66 Q K5 a0 x1 x2 x4 xs0 xs1 σ → V p l e (rmD 0 mc ms) s m args below meth c (MQ below (va_Qi Q (gB G 1 σ0) (GA G)) args s mc ms (GA G)) G 1 σ0 mc ms 5 σ 0 0 [(some a0, 1)] 66 [(0, va_rf (some a0)), (1, .int x1), (2, .int x2), (4, .int x4)] [.int xs1, .int xs0] := by
  intro a0 x1 x2 x4 xs0 xs1 σ hw
  unfold w_X0_madeAnew_66 at hw
  refine v_isub X (gD D_X0_madeAnew_0 40 rfl) ?_
  refine v_topi (fun x63 ex63 => ?_)
  replace hw := hw x63 ex63
  refine v_istore_n X [(3, .int x63), (0, va_rf (some a0)), (1, .int x1), (2, .int x2), (4, .int x4)] (gD D_X0_madeAnew_0 41 rfl) rfl (by decide) rfl ?_
  refine v_iload_n X 0 rfl (gD D_X0_madeAnew_0 42 rfl) rfl ?_
  refine v_aload_n X 1 rfl (gD D_X0_madeAnew_0 43 rfl) rfl ?_
  refine v_getR X RX0 TX0 8 1 0 (by decide) rfl gin0 6 6 RX0 (Or.inl rfl) 0 20 rfl rfl rfl (by decide) lk_fRX0_35 (gD D_X0_madeAnew_0 44 rfl) (fun o64 eo64 => ?_)
  replace hw := hw o64 eo64
  refine v_iload X 4 rfl (gD D_X0_madeAnew_0 45 rfl) ?_
  refine v_iconst X 1 (gD D_X0_madeAnew_0 46 rfl) (by decide) ?_
  refine v_iadd X (gD D_X0_madeAnew_0 47 rfl) ?_
  obtain ⟨a65, rfl, hw⟩ := hw
  obtain ⟨h66, hw⟩ := hw
  refine v_iald X 0 rfl (by decide) h66 (gD D_X0_madeAnew_0 48 rfl) ?_
  refine v_iload_n X 2 rfl (gD D_X0_madeAnew_0 49 rfl) rfl ?_
  refine v_icmp_ne X 94 (gD D_X0_madeAnew_0 50 rfl) (by decide) (fun c67 => ?_) (fun c67 => ?_)
  · replace hw := hw.1 c67
    refine v_iconst X 0 (gD D_X0_madeAnew_0 58 rfl) (by decide) ?_
    refine v_iadd X (gD D_X0_madeAnew_0 59 rfl) ?_
    refine v_topi (fun x68 ex68 => ?_)
    replace hw := hw x68 ex68
    refine v_istore_n X [(3, .int x68), (0, va_rf (some a0)), (1, .int x1), (2, .int x2), (4, .int x4)] (gD D_X0_madeAnew_0 60 rfl) rfl (by decide) rfl ?_
    refine v_iinc X (x4 + 4) 4 rfl [(4, .int (x4 + 4)), (3, .int x68), (0, va_rf (some a0)), (1, .int x1), (2, .int x2)] (gD D_X0_madeAnew_0 61 rfl) rfl (by decide) rfl ?_
    refine v_goto X 5 (gD D_X0_madeAnew_0 62 rfl) (by decide) ?_
    exact v_sub [1] [2, 3, 4, 1, 0] rfl rfl (hK5 a0 x1 x2 x68 (x4 + 4) σ hw)
  · replace hw := hw.2 c67
    refine v_aload_n X 1 rfl (gD D_X0_madeAnew_0 51 rfl) rfl ?_
    refine v_getR X RX0 TX0 8 1 0 (by decide) rfl gin0 6 6 RX0 (Or.inl rfl) 1 20 rfl rfl rfl (by decide) lk_fRX0_35 (gD D_X0_madeAnew_0 52 rfl) (fun o69 eo69 => ?_)
    replace hw := hw o69 eo69
    refine v_iload X 4 rfl (gD D_X0_madeAnew_0 53 rfl) ?_
    refine v_iconst X 3 (gD D_X0_madeAnew_0 54 rfl) (by decide) ?_
    refine v_iadd X (gD D_X0_madeAnew_0 55 rfl) ?_
    obtain ⟨a70, rfl, hw⟩ := hw
    obtain ⟨h71, hw⟩ := hw
    refine v_iald X 0 rfl (by decide) h71 (gD D_X0_madeAnew_0 56 rfl) ?_
    refine v_goto X 95 (gD D_X0_madeAnew_0 57 rfl) (by decide) ?_
    refine v_iadd X (gD D_X0_madeAnew_0 59 rfl) ?_
    refine v_topi (fun x72 ex72 => ?_)
    replace hw := hw x72 ex72
    refine v_istore_n X [(3, .int x72), (0, va_rf (some a0)), (1, .int x1), (2, .int x2), (4, .int x4)] (gD D_X0_madeAnew_0 60 rfl) rfl (by decide) rfl ?_
    refine v_iinc X (x4 + 4) 4 rfl [(4, .int (x4 + 4)), (3, .int x72), (0, va_rf (some a0)), (1, .int x1), (2, .int x2)] (gD D_X0_madeAnew_0 61 rfl) rfl (by decide) rfl ?_
    refine v_goto X 5 (gD D_X0_madeAnew_0 62 rfl) (by decide) ?_
    exact v_sub [2] [2, 3, 4, 1, 0] rfl rfl (hK5 a0 x1 x2 x72 (x4 + 4) σ hw)
set_option maxRecDepth 100000 in
set_option maxHeartbeats 4000000 in
theorem t_X0_madeAnew_5 {p : Program} {l : Launch} {e : Env} {s : State} {m : MethodId} {args : Array Value} {below : List Frame} {meth : Method} {c : Code} {G : GX} {σ0 : St} {mc ms : Nat} {Q : Int32 → St → Prop} (X : VC p l (rmD 0 mc ms) s m args meth c G 0 mc ms 5 RX0 cX0_madeAnew) (hr : meth.sig.returnType = (some .int)) (hin : meth.name = yX0_madeAnew.name) (htr : l.stackTraces = false) : ∀ (f : Nat) (a0 : Nat) (x1 : Int32) (x2 : Int32) (x3 : Int32) (x4 : Int32) (σ : St), w_X0_madeAnew_5 Q  f a0 x1 x2 x3 x4 σ → V p l e (rmD 0 mc ms) s m args below meth c (MQ below (va_Qi Q (gB G 1 σ0) (GA G)) args s mc ms (GA G)) G 1 σ0 mc ms 5 σ 0 0 [(some a0, 1)] 5 [(0, va_rf (some a0)), (1, .int x1), (2, .int x2), (3, .int x3), (4, .int x4)] [] := by
  intro f
  induction f with
  | zero => intro a0 x1 x2 x3 x4 σ hw; exact hw.elim
  | succ f ih =>
    intro a0 x1 x2 x3 x4 σ hw
    unfold w_X0_madeAnew_5 at hw
    refine v_iload X 4 rfl (gD D_X0_madeAnew_0 4 rfl) ?_
    refine v_iconst X 4 (gD D_X0_madeAnew_0 5 rfl) (by decide) ?_
    refine v_iadd X (gD D_X0_madeAnew_0 6 rfl) ?_
    refine v_aload_n X 0 rfl (gD D_X0_madeAnew_0 7 rfl) rfl ?_
    refine v_getI X RX0 TX0 8 1 0 (by decide) rfl gin0 7 7 RX0 (Or.inl rfl) 0 rfl rfl (by decide) lk_fRX0_76 (gD D_X0_madeAnew_0 8 rfl) ?_
    refine v_icmp_gt X 103 (gD D_X0_madeAnew_0 9 rfl) (by decide) (fun c51 => ?_) (fun c51 => ?_)
    · replace hw := hw.1 c51
      refine v_iload_n X 3 rfl (gD D_X0_madeAnew_0 63 rfl) rfl ?_
      exact v_iret X hr hw (gD D_X0_madeAnew_0 64 rfl)
    · replace hw := hw.2 c51
      refine v_iload X 4 rfl (gD D_X0_madeAnew_0 10 rfl) ?_
      refine v_iconst X 4 (gD D_X0_madeAnew_0 11 rfl) (by decide) ?_
      refine v_iadd X (gD D_X0_madeAnew_0 12 rfl) ?_
      refine v_aload_n X 0 rfl (gD D_X0_madeAnew_0 13 rfl) rfl ?_
      refine v_getR X RX0 TX0 8 1 0 (by decide) rfl gin0 6 6 RX0 (Or.inl rfl) 0 20 rfl rfl rfl (by decide) lk_fRX0_35 (gD D_X0_madeAnew_0 14 rfl) (fun o52 eo52 => ?_)
      replace hw := hw o52 eo52
      obtain ⟨a53, rfl, hw⟩ := hw
      refine v_alen X 0 rfl (by decide) (gD D_X0_madeAnew_0 15 rfl) ?_
      refine v_icmp_gt X 103 (gD D_X0_madeAnew_0 16 rfl) (by decide) (fun c54 => ?_) (fun c54 => ?_)
      · replace hw := hw.1 c54
        refine v_iload_n X 3 rfl (gD D_X0_madeAnew_0 63 rfl) rfl ?_
        exact v_iret X hr hw (gD D_X0_madeAnew_0 64 rfl)
      · replace hw := hw.2 c54
        refine v_aload_n X 0 rfl (gD D_X0_madeAnew_0 17 rfl) rfl ?_
        refine v_getR X RX0 TX0 8 1 0 (by decide) rfl gin0 6 6 RX0 (Or.inl rfl) 1 20 rfl rfl rfl (by decide) lk_fRX0_35 (gD D_X0_madeAnew_0 18 rfl) (fun o55 eo55 => ?_)
        replace hw := hw o55 eo55
        refine v_iload X 4 rfl (gD D_X0_madeAnew_0 19 rfl) ?_
        refine v_iconst X 2 (gD D_X0_madeAnew_0 20 rfl) (by decide) ?_
        refine v_iadd X (gD D_X0_madeAnew_0 21 rfl) ?_
        obtain ⟨a56, rfl, hw⟩ := hw
        obtain ⟨h57, hw⟩ := hw
        refine v_iald X 0 rfl (by decide) h57 (gD D_X0_madeAnew_0 22 rfl) ?_
        refine v_iload_n X 2 rfl (gD D_X0_madeAnew_0 23 rfl) rfl ?_
        refine v_icmp_ne X 97 (gD D_X0_madeAnew_0 24 rfl) (by decide) (fun c58 => ?_) (fun c58 => ?_)
        · replace hw := hw.1 c58
          refine v_iinc X (x4 + 4) 4 rfl [(4, .int (x4 + 4)), (0, va_rf (some a0)), (1, .int x1), (2, .int x2), (3, .int x3)] (gD D_X0_madeAnew_0 61 rfl) rfl (by decide) rfl ?_
          refine v_goto X 5 (gD D_X0_madeAnew_0 62 rfl) (by decide) ?_
          exact v_sub [2] [1, 2, 3, 4, 0] rfl rfl (ih a0 x1 x2 x3 (x4 + 4) σ hw)
        · replace hw := hw.2 c58
          refine v_iload_n X 3 rfl (gD D_X0_madeAnew_0 25 rfl) rfl ?_
          refine v_aload_n X 0 rfl (gD D_X0_madeAnew_0 26 rfl) rfl ?_
          refine v_getR X RX0 TX0 8 1 0 (by decide) rfl gin0 6 6 RX0 (Or.inl rfl) 2 20 rfl rfl rfl (by decide) lk_fRX0_35 (gD D_X0_madeAnew_0 27 rfl) (fun o59 eo59 => ?_)
          replace hw := hw o59 eo59
          refine v_iload X 4 rfl (gD D_X0_madeAnew_0 28 rfl) ?_
          obtain ⟨a60, rfl, hw⟩ := hw
          obtain ⟨h61, hw⟩ := hw
          refine v_iald X 0 rfl (by decide) h61 (gD D_X0_madeAnew_0 29 rfl) ?_
          refine v_iload_n X 1 rfl (gD D_X0_madeAnew_0 30 rfl) rfl ?_
          refine v_icmp_ne X 65 (gD D_X0_madeAnew_0 31 rfl) (by decide) (fun c62 => ?_) (fun c62 => ?_)
          · replace hw := hw.1 c62
            refine v_iconst X 0 (gD D_X0_madeAnew_0 39 rfl) (by decide) ?_
            exact v_sub [3] [0, 1, 2, 4] rfl rfl (t_X0_madeAnew_66 X hr hin htr ih a0 x1 x2 x4 x3 0 σ hw)
          · replace hw := hw.2 c62
            refine v_aload_n X 0 rfl (gD D_X0_madeAnew_0 32 rfl) rfl ?_
            refine v_getR X RX0 TX0 8 1 0 (by decide) rfl gin0 6 6 RX0 (Or.inl rfl) 3 20 rfl rfl rfl (by decide) lk_fRX0_35 (gD D_X0_madeAnew_0 33 rfl) (fun o73 eo73 => ?_)
            replace hw := hw o73 eo73
            refine v_iload X 4 rfl (gD D_X0_madeAnew_0 34 rfl) ?_
            refine v_iconst X 3 (gD D_X0_madeAnew_0 35 rfl) (by decide) ?_
            refine v_iadd X (gD D_X0_madeAnew_0 36 rfl) ?_
            obtain ⟨a74, rfl, hw⟩ := hw
            obtain ⟨h75, hw⟩ := hw
            refine v_iald X 0 rfl (by decide) h75 (gD D_X0_madeAnew_0 37 rfl) ?_
            refine v_goto X 66 (gD D_X0_madeAnew_0 38 rfl) (by decide) ?_
            exact v_sub [4] [0, 1, 2, 4] rfl rfl (t_X0_madeAnew_66 X hr hin htr ih a0 x1 x2 x4 x3 (sA σ a74 (x4 + 3).toNatClampNeg) σ hw)
set_option maxRecDepth 100000 in
set_option maxHeartbeats 4000000 in
theorem c_X0_madeAnew {l : Launch} {G : GX} (htr : l.stackTraces = false) {σ : St} {a0 : Nat} {x1 : Int32} {x2 : Int32} {Q : Int32 → St → Prop} (ht : tvOk σ [(some a0, 1)]) (hw : w_X0_madeAnew a0 x1 x2 σ Q) : MI l G 1 σ yX0_madeAnew cX0_madeAnew 5 (some .int) 0 0 0 [va_rf (some a0), .int x1, .int x2] Q := by
  unfold w_X0_madeAnew at hw
  refine m_start RX0 (by decide) htr ht (Nat.le_of_ble_eq_true rfl) rfl (lv := [(0, va_rf (some a0)), (1, .int x1), (2, .int x2)]) (d := 1) (fun p e s m args below meth c X hr hin => ?_)
  refine v_iconst X 0 (gD D_X0_madeAnew_0 0 rfl) (by decide) ?_
  refine v_istore_n X [(3, .int 0), (0, va_rf (some a0)), (1, .int x1), (2, .int x2)] (gD D_X0_madeAnew_0 1 rfl) rfl (by decide) rfl ?_
  refine v_iconst X 0 (gD D_X0_madeAnew_0 2 rfl) (by decide) ?_
  refine v_istore X [(4, .int 0), (3, .int 0), (0, va_rf (some a0)), (1, .int x1), (2, .int x2)] (gD D_X0_madeAnew_0 3 rfl) (by decide) rfl ?_
  obtain ⟨f76, hw⟩ := hw
  exact v_sub [0] [2, 3, 4, 1, 0] rfl rfl (t_X0_madeAnew_5 X hr hin htr  f76 a0 x1 x2 0 0 σ hw)
set_option maxRecDepth 100000 in
set_option maxHeartbeats 4000000 in
theorem c_X10_init {l : Launch} {G : GX} (htr : l.stackTraces = false) {σ : St} {a0 : Nat} {x1 : Int32} {x2 : Int32} {a3 : Nat} {x4 : Int32} {Q : St → Prop} (ht : tvOk σ [(some a0, 11), (some a3, 3)]) (hw : w_X10_init a0 x1 x2 a3 x4 σ Q) : MV l G 1 σ yX10_init cX10_init 5 0 0 0 [va_rf (some a0), .int x1, .int x2, va_rf (some a3), .int x4] Q := by
  unfold w_X10_init at hw
  refine m_start RX10 (by decide) htr ht (Nat.le_of_ble_eq_true rfl) rfl (lv := [(0, va_rf (some a0)), (1, .int x1), (2, .int x2), (3, va_rf (some a3)), (4, .int x4)]) (d := 1) (fun p e s m args below meth c X hr hin => ?_)
  refine v_aload_n X 0 rfl (gD D_X10_init_0 0 rfl) rfl ?_
  refine v_objInit X lk_mRX10_3 lk_i_objinit lk_c_objinit (by decide) (gD D_X10_init_0 1 rfl) ?_
  refine v_aload_n X 0 rfl (gD D_X10_init_0 2 rfl) rfl ?_
  refine v_iconst X 0 (gD D_X10_init_0 3 rfl) (by decide) ?_
  refine v_putI X RX10 TX10 7 11 10 (by decide) rfl gin10 5 1005 tyX10 tyX10_ok nmX10 RX10 (Or.inl rfl) 0 rfl .int (int_fit _) rfl (by decide) (Or.inl rfl) lk_fRX10_9 rfl rfl (gD D_X10_init_0 4 rfl) (fun s51 es51 => ?_)
  replace hw := hw s51 es51
  refine v_aload_n X 0 rfl (gD D_X10_init_0 5 rfl) rfl ?_
  refine v_iload_n X 1 rfl (gD D_X10_init_0 6 rfl) rfl ?_
  refine v_putIF X RX10 TX10 7 11 10 (by decide) rfl gin10 0 1000 tyX10 tyX10_ok nmX10 RX10 (Or.inl rfl) 0 rfl .int (int_fit _) rfl (by decide) (Or.inl rfl) lk_fRX10_15 rfl hin rfl rfl (gD D_X10_init_0 7 rfl) (fun s52 es52 => ?_)
  replace hw := hw s52 es52
  refine v_aload_n X 0 rfl (gD D_X10_init_0 8 rfl) rfl ?_
  refine v_iload_n X 2 rfl (gD D_X10_init_0 9 rfl) rfl ?_
  refine v_putIF X RX10 TX10 7 11 10 (by decide) rfl gin10 1 1001 tyX10 tyX10_ok nmX10 RX10 (Or.inl rfl) 0 rfl .int (int_fit _) rfl (by decide) (Or.inl rfl) lk_fRX10_18 rfl hin rfl rfl (gD D_X10_init_0 10 rfl) (fun s53 es53 => ?_)
  replace hw := hw s53 es53
  refine v_aload_n X 0 rfl (gD D_X10_init_0 11 rfl) rfl ?_
  refine v_aload_n X 3 rfl (gD D_X10_init_0 12 rfl) rfl ?_
  refine v_putRF X RX10 TX10 7 11 10 (by decide) rfl gin10 2 1002 tyX10 tyX10_ok nmX10 RX10 (Or.inl rfl) 0 rfl (fun b hb => ⟨1, by rw [← hb]; rfl⟩) rfl (by decide) (Or.inl rfl) lk_fRX10_21 rfl hin rfl rfl rfl (gD D_X10_init_0 13 rfl) (fun s54 es54 => ?_)
  replace hw := hw s54 es54
  refine v_aload_n X 0 rfl (gD D_X10_init_0 14 rfl) rfl ?_
  refine v_iload X 4 rfl (gD D_X10_init_0 15 rfl) ?_
  refine v_putIF X RX10 TX10 7 11 10 (by decide) rfl gin10 3 1003 tyX10 tyX10_ok nmX10 RX10 (Or.inl rfl) 0 rfl .int (int_fit _) rfl (by decide) (Or.inl rfl) lk_fRX10_25 rfl hin rfl rfl (gD D_X10_init_0 16 rfl) (fun s55 es55 => ?_)
  replace hw := hw s55 es55
  refine v_aload_n X 0 rfl (gD D_X10_init_0 17 rfl) rfl ?_
  refine v_aload_n X 3 rfl (gD D_X10_init_0 18 rfl) rfl ?_
  refine v_getI X RX2 TX2 6 3 2 (by decide) rfl gin2 4 204 RX2 (Or.inl rfl) 1 rfl rfl (by decide) lk_fRX10_28 (gD D_X10_init_0 19 rfl) ?_
  refine v_putI X RX10 TX10 7 11 10 (by decide) rfl gin10 4 1004 tyX10 tyX10_ok nmX10 RX10 (Or.inl rfl) 0 rfl .int (int_fit _) rfl (by decide) (Or.inl rfl) lk_fRX10_33 rfl rfl (gD D_X10_init_0 20 rfl) (fun s56 es56 => ?_)
  replace hw := hw s56 es56
  exact v_vret X hr hw (gD D_X10_init_0 21 rfl)
set_option maxRecDepth 100000 in
set_option maxHeartbeats 4000000 in
theorem c_X10_nextStation {l : Launch} {G : GX} (htr : l.stackTraces = false) {σ : St} {a0 : Nat} {Q : Int32 → St → Prop} (ht : tvOk σ [(some a0, 11)]) (hw : w_X10_nextStation a0 σ Q) : MI l G 1 σ yX10_nextStation cX10_nextStation 1 (some .int) 0 0 0 [va_rf (some a0)] Q := by
  unfold w_X10_nextStation at hw
  refine m_start RX10 (by decide) htr ht (Nat.le_of_ble_eq_true rfl) rfl (lv := [(0, va_rf (some a0))]) (d := 1) (fun p e s m args below meth c X hr hin => ?_)
  refine v_aload_n X 0 rfl (gD D_X10_nextStation_0 0 rfl) rfl ?_
  refine v_getI X RX10 TX10 7 11 10 (by decide) rfl gin10 6 1006 RX10 (Or.inl rfl) 0 rfl rfl (by decide) lk_fRX10_34 (gD D_X10_nextStation_0 1 rfl) ?_
  refine v_if_eq X 12 (gD D_X10_nextStation_0 2 rfl) (by decide) (fun c51 => ?_) (fun c51 => ?_)
  · replace hw := hw.1 c51
    refine v_aload_n X 0 rfl (gD D_X10_nextStation_0 6 rfl) rfl ?_
    refine v_getI X RX10 TX10 7 11 10 (by decide) rfl gin10 1 1001 RX10 (Or.inl rfl) 0 rfl rfl (by decide) lk_fRX10_18 (gD D_X10_nextStation_0 7 rfl) ?_
    refine v_if_ne X 23 (gD D_X10_nextStation_0 8 rfl) (by decide) (fun c52 => ?_) (fun c52 => ?_)
    · replace hw := hw.1 c52
      refine v_aload_n X 0 rfl (gD D_X10_nextStation_0 11 rfl) rfl ?_
      refine v_getR X RX10 TX10 7 11 10 (by decide) rfl gin10 2 1002 RX10 (Or.inl rfl) 0 3 rfl rfl rfl (by decide) lk_fRX10_21 (gD D_X10_nextStation_0 12 rfl) (fun o53 eo53 => ?_)
      replace hw := hw o53 eo53
      obtain ⟨a54, rfl, hw⟩ := hw
      refine v_getI X RX2 TX2 6 3 2 (by decide) rfl gin2 2 202 RX2 (Or.inl rfl) 0 rfl rfl (by decide) lk_fRX10_38 (gD D_X10_nextStation_0 13 rfl) ?_
      exact v_iret X hr hw (gD D_X10_nextStation_0 14 rfl)
    · replace hw := hw.2 c52
      refine v_iconst X (-1) (gD D_X10_nextStation_0 9 rfl) (by decide) ?_
      refine v_goto X 30 (gD D_X10_nextStation_0 10 rfl) (by decide) ?_
      exact v_iret X hr hw (gD D_X10_nextStation_0 14 rfl)
  · replace hw := hw.2 c51
    refine v_aload_n X 0 rfl (gD D_X10_nextStation_0 3 rfl) rfl ?_
    refine v_getI X RX10 TX10 7 11 10 (by decide) rfl gin10 3 1003 RX10 (Or.inl rfl) 0 rfl rfl (by decide) lk_fRX10_25 (gD D_X10_nextStation_0 4 rfl) ?_
    exact v_iret X hr hw (gD D_X10_nextStation_0 5 rfl)
set_option maxRecDepth 100000 in
set_option maxHeartbeats 4000000 in
theorem c_X11_bill {l : Launch} {G : GX} (htr : l.stackTraces = false) {σ : St} {a0 : Nat} {Q : Int32 → St → Prop} (ht : tvOk σ [(some a0, 12)]) (hw : w_X11_bill a0 σ Q) : MI l G 1 σ yX11_bill cX11_bill 1 (some .int) 0 0 0 [va_rf (some a0)] Q := by
  unfold w_X11_bill at hw
  refine m_start RX11 (by decide) htr ht (Nat.le_of_ble_eq_true rfl) rfl (lv := [(0, va_rf (some a0))]) (d := 1) (fun p e s m args below meth c X hr hin => ?_)
  refine v_aload_n X 0 rfl (gD D_X11_bill_0 0 rfl) rfl ?_
  refine v_getI X RX11 TX11 19 12 11 (by decide) rfl gin11 18 1118 RX11 (Or.inl rfl) 0 rfl rfl (by decide) lk_fRX11_209 (gD D_X11_bill_0 1 rfl) ?_
  exact v_iret X hr hw (gD D_X11_bill_0 2 rfl)
set_option maxRecDepth 100000 in
set_option maxHeartbeats 4000000 in
theorem c_X11_isBarred {l : Launch} {G : GX} (htr : l.stackTraces = false) {σ : St} {x0 : Int32} {x1 : Int32} {x2 : Int32} {Q : Int32 → St → Prop} (ht : tvOk σ []) (hw : w_X11_isBarred x0 x1 x2 σ Q) : MI l G 1 σ yX11_isBarred cX11_isBarred 3 (some .boolean) 0 0 0 [.int x0, .int x1, .int x2] Q := by
  unfold w_X11_isBarred at hw
  refine m_start RX11 (by decide) htr ht (Nat.le_of_ble_eq_true rfl) rfl (lv := [(0, .int x0), (1, .int x1), (2, .int x2)]) (d := 1) (fun p e s m args below meth c X hr hin => ?_)
  refine v_iload_n X 0 rfl (gD D_X11_isBarred_0 0 rfl) rfl ?_
  refine v_iload_n X 1 rfl (gD D_X11_isBarred_0 1 rfl) rfl ?_
  refine v_iconst X 4 (gD D_X11_isBarred_0 2 rfl) (by decide) ?_
  refine v_imul X (gD D_X11_isBarred_0 3 rfl) ?_
  refine v_iload_n X 2 rfl (gD D_X11_isBarred_0 4 rfl) rfl ?_
  refine v_iadd X (gD D_X11_isBarred_0 5 rfl) ?_
  refine v_ishr X (gD D_X11_isBarred_0 6 rfl) ?_
  refine v_iconst X 1 (gD D_X11_isBarred_0 7 rfl) (by decide) ?_
  refine v_iand X (gD D_X11_isBarred_0 8 rfl) ?_
  refine v_iconst X 1 (gD D_X11_isBarred_0 9 rfl) (by decide) ?_
  refine v_icmp_ne X 17 (gD D_X11_isBarred_0 10 rfl) (by decide) (fun c51 => ?_) (fun c51 => ?_)
  · replace hw := hw.1 c51
    refine v_iconst X 0 (gD D_X11_isBarred_0 13 rfl) (by decide) ?_
    exact v_zret X hr (by decide) hw (gD D_X11_isBarred_0 14 rfl)
  · replace hw := hw.2 c51
    refine v_iconst X 1 (gD D_X11_isBarred_0 11 rfl) (by decide) ?_
    refine v_goto X 18 (gD D_X11_isBarred_0 12 rfl) (by decide) ?_
    exact v_zret X hr (by decide) hw (gD D_X11_isBarred_0 14 rfl)
set_option maxRecDepth 100000 in
set_option maxHeartbeats 4000000 in
theorem c_X11_isGoodFor {l : Launch} {G : GX} (htr : l.stackTraces = false) {σ : St} {a0 : Nat} {a1 : Nat} {a2 : Nat} {a3 : Nat} {Q : Int32 → St → Prop} (ht : tvOk σ [(some a0, 12), (some a1, 8), (some a2, 4), (some a3, 6)]) (hw : w_X11_isGoodFor a0 a1 a2 a3 σ Q) : MI l G 1 σ yX11_isGoodFor cX11_isGoodFor 4 (some .boolean) 0 0 0 [va_rf (some a0), va_rf (some a1), va_rf (some a2), va_rf (some a3)] Q := by
  unfold w_X11_isGoodFor at hw
  refine m_start RX11 (by decide) htr ht (Nat.le_of_ble_eq_true rfl) rfl (lv := [(0, va_rf (some a0)), (1, va_rf (some a1)), (2, va_rf (some a2)), (3, va_rf (some a3))]) (d := 1) (fun p e s m args below meth c X hr hin => ?_)
  refine v_aload_n X 3 rfl (gD D_X11_isGoodFor_0 0 rfl) rfl ?_
  refine v_getR X RX5 TX5 4 6 5 (by decide) rfl gin5 1 501 RX5 (Or.inl rfl) 3 4 rfl rfl rfl (by decide) lk_fRX11_368 (gD D_X11_isGoodFor_0 1 rfl) (fun o51 eo51 => ?_)
  replace hw := hw o51 eo51
  refine v_aload_n X 2 rfl (gD D_X11_isGoodFor_0 2 rfl) rfl ?_
  refine v_acmp_ne X 35 (gD D_X11_isGoodFor_0 3 rfl) (by decide) (fun c52 => ?_) (fun c52 => ?_)
  · replace hw := hw.1 c52
    refine v_iconst X 0 (gD D_X11_isGoodFor_0 17 rfl) (by decide) ?_
    exact v_zret X hr (by decide) hw (gD D_X11_isGoodFor_0 18 rfl)
  · replace hw := hw.2 c52
    refine v_aload_n X 3 rfl (gD D_X11_isGoodFor_0 4 rfl) rfl ?_
    refine v_getI X RX5 TX5 4 6 5 (by decide) rfl gin5 3 503 RX5 (Or.inl rfl) 4 rfl rfl (by decide) lk_fRX11_365 (gD D_X11_isGoodFor_0 5 rfl) ?_
    refine v_if_ne X 35 (gD D_X11_isGoodFor_0 6 rfl) (by decide) (fun c53 => ?_) (fun c53 => ?_)
    · replace hw := hw.1 c53
      refine v_iconst X 0 (gD D_X11_isGoodFor_0 17 rfl) (by decide) ?_
      exact v_zret X hr (by decide) hw (gD D_X11_isGoodFor_0 18 rfl)
    · replace hw := hw.2 c53
      refine v_aload_n X 3 rfl (gD D_X11_isGoodFor_0 7 rfl) rfl ?_
      refine v_getI X RX5 TX5 4 6 5 (by decide) rfl gin5 2 502 RX5 (Or.inl rfl) 4 rfl rfl (by decide) lk_fRX11_157 (gD D_X11_isGoodFor_0 8 rfl) ?_
      refine v_aload_n X 0 rfl (gD D_X11_isGoodFor_0 9 rfl) rfl ?_
      refine v_getI X RX11 TX11 19 12 11 (by decide) rfl gin11 16 1116 RX11 (Or.inl rfl) 1 rfl rfl (by decide) lk_fRX11_298 (gD D_X11_isGoodFor_0 10 rfl) ?_
      refine v_aload_n X 1 rfl (gD D_X11_isGoodFor_0 11 rfl) rfl ?_
      refine v_getI X RX7 TX7 7 8 7 (by decide) rfl gin7 3 703 RX7 (Or.inl rfl) 2 rfl rfl (by decide) lk_fRX11_463 (gD D_X11_isGoodFor_0 12 rfl) ?_
      refine v_iadd X (gD D_X11_isGoodFor_0 13 rfl) ?_
      refine v_icmp_lt X 35 (gD D_X11_isGoodFor_0 14 rfl) (by decide) (fun c54 => ?_) (fun c54 => ?_)
      · replace hw := hw.1 c54
        refine v_iconst X 0 (gD D_X11_isGoodFor_0 17 rfl) (by decide) ?_
        exact v_zret X hr (by decide) hw (gD D_X11_isGoodFor_0 18 rfl)
      · replace hw := hw.2 c54
        refine v_iconst X 1 (gD D_X11_isGoodFor_0 15 rfl) (by decide) ?_
        refine v_goto X 36 (gD D_X11_isGoodFor_0 16 rfl) (by decide) ?_
        exact v_zret X hr (by decide) hw (gD D_X11_isGoodFor_0 18 rfl)
set_option maxRecDepth 100000 in
set_option maxHeartbeats 4000000 in
theorem c_X11_isGroup {l : Launch} {G : GX} (htr : l.stackTraces = false) {σ : St} {x0 : Int32} {Q : Int32 → St → Prop} (ht : tvOk σ []) (hw : w_X11_isGroup x0 σ Q) : MI l G 1 σ yX11_isGroup cX11_isGroup 1 (some .boolean) 0 0 0 [.int x0] Q := by
  unfold w_X11_isGroup at hw
  refine m_start RX11 (by decide) htr ht (Nat.le_of_ble_eq_true rfl) rfl (lv := [(0, .int x0)]) (d := 1) (fun p e s m args below meth c X hr hin => ?_)
  refine v_iload_n X 0 rfl (gD D_X11_isGroup_0 0 rfl) rfl ?_
  refine v_if_lt X 13 (gD D_X11_isGroup_0 1 rfl) (by decide) (fun c51 => ?_) (fun c51 => ?_)
  · replace hw := hw.1 c51
    refine v_iconst X 0 (gD D_X11_isGroup_0 7 rfl) (by decide) ?_
    exact v_zret X hr (by decide) hw (gD D_X11_isGroup_0 8 rfl)
  · replace hw := hw.2 c51
    refine v_iload_n X 0 rfl (gD D_X11_isGroup_0 2 rfl) rfl ?_
    refine v_iconst X 4 (gD D_X11_isGroup_0 3 rfl) (by decide) ?_
    refine v_icmp_ge X 13 (gD D_X11_isGroup_0 4 rfl) (by decide) (fun c52 => ?_) (fun c52 => ?_)
    · replace hw := hw.1 c52
      refine v_iconst X 0 (gD D_X11_isGroup_0 7 rfl) (by decide) ?_
      exact v_zret X hr (by decide) hw (gD D_X11_isGroup_0 8 rfl)
    · replace hw := hw.2 c52
      refine v_iconst X 1 (gD D_X11_isGroup_0 5 rfl) (by decide) ?_
      refine v_goto X 14 (gD D_X11_isGroup_0 6 rfl) (by decide) ?_
      exact v_zret X hr (by decide) hw (gD D_X11_isGroup_0 8 rfl)
set_option maxRecDepth 100000 in
set_option maxHeartbeats 4000000 in
theorem c_X11_isItem {l : Launch} {G : GX} (htr : l.stackTraces = false) {σ : St} {x0 : Int32} {Q : Int32 → St → Prop} (ht : tvOk σ []) (hw : w_X11_isItem x0 σ Q) : MI l G 1 σ yX11_isItem cX11_isItem 1 (some .boolean) 0 0 0 [.int x0] Q := by
  unfold w_X11_isItem at hw
  refine m_start RX11 (by decide) htr ht (Nat.le_of_ble_eq_true rfl) rfl (lv := [(0, .int x0)]) (d := 1) (fun p e s m args below meth c X hr hin => ?_)
  refine v_iload_n X 0 rfl (gD D_X11_isItem_0 0 rfl) rfl ?_
  refine v_if_lt X 14 (gD D_X11_isItem_0 1 rfl) (by decide) (fun c51 => ?_) (fun c51 => ?_)
  · replace hw := hw.1 c51
    refine v_iconst X 0 (gD D_X11_isItem_0 7 rfl) (by decide) ?_
    exact v_zret X hr (by decide) hw (gD D_X11_isItem_0 8 rfl)
  · replace hw := hw.2 c51
    refine v_iload_n X 0 rfl (gD D_X11_isItem_0 2 rfl) rfl ?_
    refine v_bipush X 6 (gD D_X11_isItem_0 3 rfl) (by decide) ?_
    refine v_icmp_ge X 14 (gD D_X11_isItem_0 4 rfl) (by decide) (fun c52 => ?_) (fun c52 => ?_)
    · replace hw := hw.1 c52
      refine v_iconst X 0 (gD D_X11_isItem_0 7 rfl) (by decide) ?_
      exact v_zret X hr (by decide) hw (gD D_X11_isItem_0 8 rfl)
    · replace hw := hw.2 c52
      refine v_iconst X 1 (gD D_X11_isItem_0 5 rfl) (by decide) ?_
      refine v_goto X 15 (gD D_X11_isItem_0 6 rfl) (by decide) ?_
      exact v_zret X hr (by decide) hw (gD D_X11_isItem_0 8 rfl)
set_option maxRecDepth 100000 in
set_option maxHeartbeats 4000000 in
theorem c_X11_isRobot {l : Launch} {G : GX} (htr : l.stackTraces = false) {σ : St} {x0 : Int32} {Q : Int32 → St → Prop} (ht : tvOk σ []) (hw : w_X11_isRobot x0 σ Q) : MI l G 1 σ yX11_isRobot cX11_isRobot 1 (some .boolean) 0 0 0 [.int x0] Q := by
  unfold w_X11_isRobot at hw
  refine m_start RX11 (by decide) htr ht (Nat.le_of_ble_eq_true rfl) rfl (lv := [(0, .int x0)]) (d := 1) (fun p e s m args below meth c X hr hin => ?_)
  refine v_iload_n X 0 rfl (gD D_X11_isRobot_0 0 rfl) rfl ?_
  refine v_if_lt X 13 (gD D_X11_isRobot_0 1 rfl) (by decide) (fun c51 => ?_) (fun c51 => ?_)
  · replace hw := hw.1 c51
    refine v_iconst X 0 (gD D_X11_isRobot_0 7 rfl) (by decide) ?_
    exact v_zret X hr (by decide) hw (gD D_X11_isRobot_0 8 rfl)
  · replace hw := hw.2 c51
    refine v_iload_n X 0 rfl (gD D_X11_isRobot_0 2 rfl) rfl ?_
    refine v_iconst X 3 (gD D_X11_isRobot_0 3 rfl) (by decide) ?_
    refine v_icmp_ge X 13 (gD D_X11_isRobot_0 4 rfl) (by decide) (fun c52 => ?_) (fun c52 => ?_)
    · replace hw := hw.1 c52
      refine v_iconst X 0 (gD D_X11_isRobot_0 7 rfl) (by decide) ?_
      exact v_zret X hr (by decide) hw (gD D_X11_isRobot_0 8 rfl)
    · replace hw := hw.2 c52
      refine v_iconst X 1 (gD D_X11_isRobot_0 5 rfl) (by decide) ?_
      refine v_goto X 14 (gD D_X11_isRobot_0 6 rfl) (by decide) ?_
      exact v_zret X hr (by decide) hw (gD D_X11_isRobot_0 8 rfl)
set_option maxRecDepth 100000 in
set_option maxHeartbeats 4000000 in
theorem c_X11_isSlot {l : Launch} {G : GX} (htr : l.stackTraces = false) {σ : St} {x0 : Int32} {Q : Int32 → St → Prop} (ht : tvOk σ []) (hw : w_X11_isSlot x0 σ Q) : MI l G 1 σ yX11_isSlot cX11_isSlot 1 (some .boolean) 0 0 0 [.int x0] Q := by
  unfold w_X11_isSlot at hw
  refine m_start RX11 (by decide) htr ht (Nat.le_of_ble_eq_true rfl) rfl (lv := [(0, .int x0)]) (d := 1) (fun p e s m args below meth c X hr hin => ?_)
  refine v_iload_n X 0 rfl (gD D_X11_isSlot_0 0 rfl) rfl ?_
  refine v_if_lt X 14 (gD D_X11_isSlot_0 1 rfl) (by decide) (fun c51 => ?_) (fun c51 => ?_)
  · replace hw := hw.1 c51
    refine v_iconst X 0 (gD D_X11_isSlot_0 7 rfl) (by decide) ?_
    exact v_zret X hr (by decide) hw (gD D_X11_isSlot_0 8 rfl)
  · replace hw := hw.2 c51
    refine v_iload_n X 0 rfl (gD D_X11_isSlot_0 2 rfl) rfl ?_
    refine v_bipush X 18 (gD D_X11_isSlot_0 3 rfl) (by decide) ?_
    refine v_icmp_ge X 14 (gD D_X11_isSlot_0 4 rfl) (by decide) (fun c52 => ?_) (fun c52 => ?_)
    · replace hw := hw.1 c52
      refine v_iconst X 0 (gD D_X11_isSlot_0 7 rfl) (by decide) ?_
      exact v_zret X hr (by decide) hw (gD D_X11_isSlot_0 8 rfl)
    · replace hw := hw.2 c52
      refine v_iconst X 1 (gD D_X11_isSlot_0 5 rfl) (by decide) ?_
      refine v_goto X 15 (gD D_X11_isSlot_0 6 rfl) (by decide) ?_
      exact v_zret X hr (by decide) hw (gD D_X11_isSlot_0 8 rfl)
set_option maxRecDepth 100000 in
set_option maxHeartbeats 4000000 in
theorem c_X11_isWithin {l : Launch} {G : GX} (htr : l.stackTraces = false) {σ : St} {x0 : Int32} {x1 : Int32} {x2 : Int32} {Q : Int32 → St → Prop} (ht : tvOk σ []) (hw : w_X11_isWithin x0 x1 x2 σ Q) : MI l G 1 σ yX11_isWithin cX11_isWithin 3 (some .boolean) 0 0 0 [.int x0, .int x1, .int x2] Q := by
  unfold w_X11_isWithin at hw
  refine m_start RX11 (by decide) htr ht (Nat.le_of_ble_eq_true rfl) rfl (lv := [(0, .int x0), (1, .int x1), (2, .int x2)]) (d := 1) (fun p e s m args below meth c X hr hin => ?_)
  refine v_iload_n X 0 rfl (gD D_X11_isWithin_0 0 rfl) rfl ?_
  refine v_iload_n X 1 rfl (gD D_X11_isWithin_0 1 rfl) rfl ?_
  refine v_icmp_lt X 14 (gD D_X11_isWithin_0 2 rfl) (by decide) (fun c51 => ?_) (fun c51 => ?_)
  · replace hw := hw.1 c51
    refine v_iconst X 0 (gD D_X11_isWithin_0 8 rfl) (by decide) ?_
    exact v_zret X hr (by decide) hw (gD D_X11_isWithin_0 9 rfl)
  · replace hw := hw.2 c51
    refine v_iload_n X 0 rfl (gD D_X11_isWithin_0 3 rfl) rfl ?_
    refine v_iload_n X 2 rfl (gD D_X11_isWithin_0 4 rfl) rfl ?_
    refine v_icmp_gt X 14 (gD D_X11_isWithin_0 5 rfl) (by decide) (fun c52 => ?_) (fun c52 => ?_)
    · replace hw := hw.1 c52
      refine v_iconst X 0 (gD D_X11_isWithin_0 8 rfl) (by decide) ?_
      exact v_zret X hr (by decide) hw (gD D_X11_isWithin_0 9 rfl)
    · replace hw := hw.2 c52
      refine v_iconst X 1 (gD D_X11_isWithin_0 6 rfl) (by decide) ?_
      refine v_goto X 15 (gD D_X11_isWithin_0 7 rfl) (by decide) ?_
      exact v_zret X hr (by decide) hw (gD D_X11_isWithin_0 9 rfl)
set_option maxRecDepth 100000 in
set_option maxHeartbeats 4000000 in
theorem t_X11_robotIn_11 {p : Program} {l : Launch} {e : Env} {s : State} {m : MethodId} {args : Array Value} {below : List Frame} {meth : Method} {c : Code} {G : GX} {σ0 : St} {mc ms : Nat} {Q : Option Nat → St → Prop} (X : VC p l (rmD 0 mc ms) s m args meth c G 0 mc ms 6 RX11 cX11_robotIn) (hr : meth.sig.returnType = (some (.object RX8))) (hin : meth.name = yX11_robotIn.name) (htr : l.stackTraces = false) : ∀ (f : Nat) (x1 : Int32) (o2 : Option Nat) (x3 : Int32) (x4 : Int32) (σ : St), w_X11_robotIn_11 Q  f x1 o2 x3 x4 σ → V p l e (rmD 0 mc ms) s m args below meth c (MQ below (va_Qq (fun r τ => Q r τ ∧ rOk 9 r τ) (gB G 1 σ0) (GA G)) args s mc ms (GA G)) G 1 σ0 mc ms 6 σ 0 0 [(o2, 26)] 11 [(1, .int x1), (2, va_rf o2), (3, .int x3), (4, .int x4)] [] := by
  intro f
  induction f with
  | zero => intro x1 o2 x3 x4 σ hw; exact hw.elim
  | succ f ih =>
    intro x1 o2 x3 x4 σ hw
    unfold w_X11_robotIn_11 at hw
    refine v_iload X 3 rfl (gD D_X11_robotIn_0 8 rfl) ?_
    refine v_iload_n X 2 rfl (gD D_X11_robotIn_0 9 rfl) rfl ?_
    refine v_icmp_ge X 41 (gD D_X11_robotIn_0 10 rfl) (by decide) (fun c54 => ?_) (fun c54 => ?_)
    · replace hw := hw.1 c54
      refine v_null X (gD D_X11_robotIn_0 23 rfl) ?_
      exact v_aret X hr (Or.inl ⟨_, rfl⟩) (Or.inr (Or.inl rfl)) hw (gD D_X11_robotIn_0 24 rfl)
    · replace hw := hw.2 c54
      refine v_aload_n X 1 rfl (gD D_X11_robotIn_0 11 rfl) rfl ?_
      refine v_iload X 3 rfl (gD D_X11_robotIn_0 12 rfl) ?_
      obtain ⟨a55, rfl, hw⟩ := hw
      obtain ⟨h56, hw⟩ := hw
      refine v_aald X 0 9 rfl (by decide) h56 (gD D_X11_robotIn_0 13 rfl) (fun o57 eo57 => ?_)
      replace hw := hw o57 eo57
      refine v_astore X [(5, va_rf o57), (1, .int x1), (2, va_rf (some a55)), (3, .int x3), (4, .int x4)] (gD D_X11_robotIn_0 14 rfl) (by decide) rfl ?_
      refine v_aload X 0 rfl (gD D_X11_robotIn_0 15 rfl) ?_
      obtain ⟨a58, rfl, hw⟩ := hw
      refine v_getI X RX8 TX8 4 9 8 (by decide) rfl gin8 1 801 RX8 (Or.inl rfl) 0 rfl rfl (by decide) lk_fRX11_308 (gD D_X11_robotIn_0 16 rfl) ?_
      refine v_iload_n X 1 rfl (gD D_X11_robotIn_0 17 rfl) rfl ?_
      refine v_icmp_ne X 35 (gD D_X11_robotIn_0 18 rfl) (by decide) (fun c59 => ?_) (fun c59 => ?_)
      · replace hw := hw.1 c59
        refine v_iinc X (x4 + 1) 4 rfl [(4, .int (x4 + 1)), (5, va_rf (some a58)), (1, .int x1), (2, va_rf (some a55)), (3, .int x3)] (gD D_X11_robotIn_0 21 rfl) rfl (by decide) rfl ?_
        refine v_goto X 11 (gD D_X11_robotIn_0 22 rfl) (by decide) ?_
        exact v_sub [1] [2, 3, 4, 0] rfl rfl (ih x1 (some a55) x3 (x4 + 1) σ hw)
      · replace hw := hw.2 c59
        refine v_aload X 0 rfl (gD D_X11_robotIn_0 19 rfl) ?_
        exact v_aret X hr (Or.inl ⟨_, rfl⟩) (Or.inr (Or.inr ⟨0, rfl⟩)) hw (gD D_X11_robotIn_0 20 rfl)
set_option maxRecDepth 100000 in
set_option maxHeartbeats 4000000 in
theorem c_X11_robotIn {l : Launch} {G : GX} (htr : l.stackTraces = false) {σ : St} {a0 : Nat} {x1 : Int32} {Q : Option Nat → St → Prop} (ht : tvOk σ [(some a0, 12)]) (hw : w_X11_robotIn a0 x1 σ Q) : MR l G 1 σ yX11_robotIn cX11_robotIn 6 (some (.object RX8)) 0 0 0 [va_rf (some a0), .int x1] 9 Q := by
  unfold w_X11_robotIn at hw
  refine m_start RX11 (by decide) htr ht (Nat.le_of_ble_eq_true rfl) rfl (lv := [(0, va_rf (some a0)), (1, .int x1)]) (d := 1) (fun p e s m args below meth c X hr hin => ?_)
  refine v_aload_n X 0 rfl (gD D_X11_robotIn_0 0 rfl) rfl ?_
  refine v_getR X RX11 TX11 19 12 11 (by decide) rfl gin11 2 1102 RX11 (Or.inl rfl) 0 26 rfl rfl rfl (by decide) lk_fRX11_23 (gD D_X11_robotIn_0 1 rfl) (fun o51 eo51 => ?_)
  replace hw := hw o51 eo51
  refine v_astore_n X [(2, va_rf o51), (0, va_rf (some a0)), (1, .int x1)] (gD D_X11_robotIn_0 2 rfl) rfl (by decide) rfl ?_
  refine v_aload_n X 0 rfl (gD D_X11_robotIn_0 3 rfl) rfl ?_
  obtain ⟨a52, rfl, hw⟩ := hw
  refine v_alen X 0 rfl (by decide) (gD D_X11_robotIn_0 4 rfl) ?_
  refine v_topi (fun x53 ex53 => ?_)
  replace hw := hw x53 ex53
  refine v_istore_n X [(3, .int x53), (2, va_rf (some a52)), (0, va_rf (some a0)), (1, .int x1)] (gD D_X11_robotIn_0 5 rfl) rfl (by decide) rfl ?_
  refine v_iconst X 0 (gD D_X11_robotIn_0 6 rfl) (by decide) ?_
  refine v_istore X [(4, .int 0), (3, .int x53), (2, va_rf (some a52)), (0, va_rf (some a0)), (1, .int x1)] (gD D_X11_robotIn_0 7 rfl) (by decide) rfl ?_
  obtain ⟨f60, hw⟩ := hw
  exact v_sub [0] [4, 2, 1, 0] rfl rfl (t_X11_robotIn_11 X hr hin htr  f60 x1 (some a52) x53 0 σ hw)
set_option maxRecDepth 100000 in
set_option maxHeartbeats 4000000 in
theorem c_X11_standstills {l : Launch} {G : GX} (htr : l.stackTraces = false) {σ : St} {a0 : Nat} {Q : Int32 → St → Prop} (ht : tvOk σ [(some a0, 12)]) (hw : w_X11_standstills a0 σ Q) : MI l G 1 σ yX11_standstills cX11_standstills 1 (some .int) 0 0 0 [va_rf (some a0)] Q := by
  unfold w_X11_standstills at hw
  refine m_start RX11 (by decide) htr ht (Nat.le_of_ble_eq_true rfl) rfl (lv := [(0, va_rf (some a0))]) (d := 1) (fun p e s m args below meth c X hr hin => ?_)
  refine v_aload_n X 0 rfl (gD D_X11_standstills_0 0 rfl) rfl ?_
  refine v_getI X RX11 TX11 19 12 11 (by decide) rfl gin11 17 1117 RX11 (Or.inl rfl) 0 rfl rfl (by decide) lk_fRX11_323 (gD D_X11_standstills_0 1 rfl) ?_
  exact v_iret X hr hw (gD D_X11_standstills_0 2 rfl)
set_option maxRecDepth 100000 in
set_option maxHeartbeats 4000000 in
theorem c_X1_add {l : Launch} {G : GX} (htr : l.stackTraces = false) {σ : St} {a0 : Nat} {x1 : Int32} {x2 : Int32} {x3 : Int32} {Q : St → Prop} (ht : tvOk σ [(some a0, 2)]) (hw : w_X1_add a0 x1 x2 x3 σ Q) : MV l G 1 σ yX1_add cX1_add 5 0 0 0 [va_rf (some a0), .int x1, .int x2, .int x3] Q := by
  unfold w_X1_add at hw
  refine m_start RX1 (by decide) htr ht (Nat.le_of_ble_eq_true rfl) rfl (lv := [(0, va_rf (some a0)), (1, .int x1), (2, .int x2), (3, .int x3)]) (d := 1) (fun p e s m args below meth c X hr hin => ?_)
  refine v_iload_n X 1 rfl (gD D_X1_add_0 0 rfl) rfl ?_
  refine v_aload_n X 0 rfl (gD D_X1_add_0 1 rfl) rfl ?_
  refine v_getI X RX1 TX1 2 2 1 (by decide) rfl gin1 0 100 RX1 (Or.inl rfl) 0 rfl rfl (by decide) lk_fRX1_7 (gD D_X1_add_0 2 rfl) ?_
  refine v_imul X (gD D_X1_add_0 3 rfl) ?_
  refine v_iload_n X 2 rfl (gD D_X1_add_0 4 rfl) rfl ?_
  refine v_iadd X (gD D_X1_add_0 5 rfl) ?_
  refine v_topi (fun x51 ex51 => ?_)
  replace hw := hw x51 ex51
  refine v_istore X [(4, .int x51), (0, va_rf (some a0)), (1, .int x1), (2, .int x2), (3, .int x3)] (gD D_X1_add_0 6 rfl) (by decide) rfl ?_
  refine v_iload_n X 3 rfl (gD D_X1_add_0 7 rfl) rfl ?_
  refine v_if_lt X 48 (gD D_X1_add_0 8 rfl) (by decide) (fun c52 => ?_) (fun c52 => ?_)
  · replace hw := hw.1 c52
    exact v_vret X hr hw (gD D_X1_add_0 28 rfl)
  · replace hw := hw.2 c52
    refine v_iload_n X 3 rfl (gD D_X1_add_0 9 rfl) rfl ?_
    refine v_aload_n X 1 rfl (gD D_X1_add_0 10 rfl) rfl ?_
    refine v_getI X RX1 TX1 2 2 1 (by decide) rfl gin1 0 100 RX1 (Or.inl rfl) 0 rfl rfl (by decide) lk_fRX1_7 (gD D_X1_add_0 11 rfl) ?_
    refine v_icmp_ge X 48 (gD D_X1_add_0 12 rfl) (by decide) (fun c53 => ?_) (fun c53 => ?_)
    · replace hw := hw.1 c53
      exact v_vret X hr hw (gD D_X1_add_0 28 rfl)
    · replace hw := hw.2 c53
      refine v_iload X 0 rfl (gD D_X1_add_0 13 rfl) ?_
      refine v_if_lt X 48 (gD D_X1_add_0 14 rfl) (by decide) (fun c54 => ?_) (fun c54 => ?_)
      · replace hw := hw.1 c54
        exact v_vret X hr hw (gD D_X1_add_0 28 rfl)
      · replace hw := hw.2 c54
        refine v_iload X 0 rfl (gD D_X1_add_0 15 rfl) ?_
        refine v_aload_n X 1 rfl (gD D_X1_add_0 16 rfl) rfl ?_
        refine v_getR X RX1 TX1 2 2 1 (by decide) rfl gin1 1 101 RX1 (Or.inl rfl) 0 20 rfl rfl rfl (by decide) lk_fRX1_19 (gD D_X1_add_0 17 rfl) (fun o55 eo55 => ?_)
        replace hw := hw o55 eo55
        obtain ⟨a56, rfl, hw⟩ := hw
        refine v_alen X 0 rfl (by decide) (gD D_X1_add_0 18 rfl) ?_
        refine v_icmp_ge X 48 (gD D_X1_add_0 19 rfl) (by decide) (fun c57 => ?_) (fun c57 => ?_)
        · replace hw := hw.1 c57
          exact v_vret X hr hw (gD D_X1_add_0 28 rfl)
        · replace hw := hw.2 c57
          refine v_aload_n X 1 rfl (gD D_X1_add_0 20 rfl) rfl ?_
          refine v_getR X RX1 TX1 2 2 1 (by decide) rfl gin1 1 101 RX1 (Or.inl rfl) 1 20 rfl rfl rfl (by decide) lk_fRX1_19 (gD D_X1_add_0 21 rfl) (fun o58 eo58 => ?_)
          replace hw := hw o58 eo58
          refine v_iload X 0 rfl (gD D_X1_add_0 22 rfl) ?_
          refine v_dup2 X (gD D_X1_add_0 23 rfl) rfl (rf_cat _) ?_
          obtain ⟨a59, rfl, hw⟩ := hw
          obtain ⟨h60, hw⟩ := hw
          refine v_iald X 0 rfl (by decide) h60 (gD D_X1_add_0 24 rfl) ?_
          refine v_iload_n X 4 rfl (gD D_X1_add_0 25 rfl) rfl ?_
          refine v_iadd X (gD D_X1_add_0 26 rfl) ?_
          obtain ⟨h61, hw⟩ := hw
          refine v_iast X 0 rfl (by decide) (Or.inl rfl) h61 (gD D_X1_add_0 27 rfl) (fun s62 es62 => ?_)
          replace hw := hw s62 es62
          exact v_vret X hr hw (gD D_X1_add_0 28 rfl)
set_option maxRecDepth 100000 in
set_option maxHeartbeats 4000000 in
theorem t_X1_at_39 {p : Program} {l : Launch} {e : Env} {s : State} {m : MethodId} {args : Array Value} {below : List Frame} {meth : Method} {c : Code} {G : GX} {σ0 : St} {mc ms : Nat} {Q : Int32 → St → Prop} (X : VC p l (rmD 0 mc ms) s m args meth c G 0 mc ms 5 RX1 cX1_at) (hr : meth.sig.returnType = (some .int)) (hin : meth.name = yX1_at.name) (htr : l.stackTraces = false) : ∀ (a0 : Nat) (x3 : Int32) (xs0 : Int32) (σ : St), w_X1_at_39 Q  a0 x3 xs0 σ → V p l e (rmD 0 mc ms) s m args below meth c (MQ below (va_Qi Q (gB G 1 σ0) (GA G)) args s mc ms (GA G)) G 1 σ0 mc ms 5 σ 0 0 [(some a0, 2)] 39 [(0, va_rf (some a0)), (3, .int x3)] [.int xs0] := by
  intro a0 x3 xs0 σ hw
  unfold w_X1_at_39 at hw
  refine v_istore X [(4, .int xs0), (0, va_rf (some a0)), (3, .int x3)] (gD D_X1_at_0 23 rfl) (by decide) rfl ?_
  refine v_iload X 0 rfl (gD D_X1_at_0 24 rfl) ?_
  refine v_if_eq X 55 (gD D_X1_at_0 25 rfl) (by decide) (fun c53 => ?_) (fun c53 => ?_)
  · replace hw := hw.1 c53
    refine v_iconst X 0 (gD D_X1_at_0 31 rfl) (by decide) ?_
    exact v_iret X hr hw (gD D_X1_at_0 32 rfl)
  · replace hw := hw.2 c53
    refine v_aload_n X 1 rfl (gD D_X1_at_0 26 rfl) rfl ?_
    refine v_getR X RX1 TX1 2 2 1 (by decide) rfl gin1 1 101 RX1 (Or.inl rfl) 0 20 rfl rfl rfl (by decide) lk_fRX1_19 (gD D_X1_at_0 27 rfl) (fun o54 eo54 => ?_)
    replace hw := hw o54 eo54
    refine v_iload_n X 2 rfl (gD D_X1_at_0 28 rfl) rfl ?_
    obtain ⟨a55, rfl, hw⟩ := hw
    obtain ⟨h56, hw⟩ := hw
    refine v_iald X 0 rfl (by decide) h56 (gD D_X1_at_0 29 rfl) ?_
    refine v_goto X 56 (gD D_X1_at_0 30 rfl) (by decide) ?_
    exact v_iret X hr hw (gD D_X1_at_0 32 rfl)
set_option maxRecDepth 100000 in
set_option maxHeartbeats 4000000 in
theorem t_X1_at_38 {p : Program} {l : Launch} {e : Env} {s : State} {m : MethodId} {args : Array Value} {below : List Frame} {meth : Method} {c : Code} {G : GX} {σ0 : St} {mc ms : Nat} {Q : Int32 → St → Prop} (X : VC p l (rmD 0 mc ms) s m args meth c G 0 mc ms 5 RX1 cX1_at) (hr : meth.sig.returnType = (some .int)) (hin : meth.name = yX1_at.name) (htr : l.stackTraces = false) : ∀ (a0 : Nat) (x3 : Int32) (σ : St), w_X1_at_38 Q  a0 x3 σ → V p l e (rmD 0 mc ms) s m args below meth c (MQ below (va_Qi Q (gB G 1 σ0) (GA G)) args s mc ms (GA G)) G 1 σ0 mc ms 5 σ 0 0 [(some a0, 2)] 38 [(0, va_rf (some a0)), (3, .int x3)] [] := by
  intro a0 x3 σ hw
  unfold w_X1_at_38 at hw
  refine v_iconst X 0 (gD D_X1_at_0 22 rfl) (by decide) ?_
  exact v_sub [0] [0, 1] rfl rfl (t_X1_at_39 X hr hin htr  a0 x3 0 σ hw)
set_option maxRecDepth 100000 in
set_option maxHeartbeats 4000000 in
theorem c_X1_at {l : Launch} {G : GX} (htr : l.stackTraces = false) {σ : St} {a0 : Nat} {x1 : Int32} {x2 : Int32} {Q : Int32 → St → Prop} (ht : tvOk σ [(some a0, 2)]) (hw : w_X1_at a0 x1 x2 σ Q) : MI l G 1 σ yX1_at cX1_at 5 (some .int) 0 0 0 [va_rf (some a0), .int x1, .int x2] Q := by
  unfold w_X1_at at hw
  refine m_start RX1 (by decide) htr ht (Nat.le_of_ble_eq_true rfl) rfl (lv := [(0, va_rf (some a0)), (1, .int x1), (2, .int x2)]) (d := 1) (fun p e s m args below meth c X hr hin => ?_)
  refine v_iload_n X 1 rfl (gD D_X1_at_0 0 rfl) rfl ?_
  refine v_aload_n X 0 rfl (gD D_X1_at_0 1 rfl) rfl ?_
  refine v_getI X RX1 TX1 2 2 1 (by decide) rfl gin1 0 100 RX1 (Or.inl rfl) 0 rfl rfl (by decide) lk_fRX1_7 (gD D_X1_at_0 2 rfl) ?_
  refine v_imul X (gD D_X1_at_0 3 rfl) ?_
  refine v_iload_n X 2 rfl (gD D_X1_at_0 4 rfl) rfl ?_
  refine v_iadd X (gD D_X1_at_0 5 rfl) ?_
  refine v_topi (fun x51 ex51 => ?_)
  replace hw := hw x51 ex51
  refine v_istore_n X [(3, .int x51), (0, va_rf (some a0)), (1, .int x1), (2, .int x2)] (gD D_X1_at_0 6 rfl) rfl (by decide) rfl ?_
  refine v_iload_n X 3 rfl (gD D_X1_at_0 7 rfl) rfl ?_
  refine v_if_lt X 38 (gD D_X1_at_0 8 rfl) (by decide) (fun c52 => ?_) (fun c52 => ?_)
  · replace hw := hw.1 c52
    exact v_sub [0] [1, 0] rfl rfl (t_X1_at_38 X hr hin htr  a0 x51 σ hw)
  · replace hw := hw.2 c52
    refine v_iload_n X 3 rfl (gD D_X1_at_0 9 rfl) rfl ?_
    refine v_aload_n X 1 rfl (gD D_X1_at_0 10 rfl) rfl ?_
    refine v_getI X RX1 TX1 2 2 1 (by decide) rfl gin1 0 100 RX1 (Or.inl rfl) 0 rfl rfl (by decide) lk_fRX1_7 (gD D_X1_at_0 11 rfl) ?_
    refine v_icmp_ge X 38 (gD D_X1_at_0 12 rfl) (by decide) (fun c57 => ?_) (fun c57 => ?_)
    · replace hw := hw.1 c57
      exact v_sub [0] [1, 0] rfl rfl (t_X1_at_38 X hr hin htr  a0 x51 σ hw)
    · replace hw := hw.2 c57
      refine v_iload_n X 0 rfl (gD D_X1_at_0 13 rfl) rfl ?_
      refine v_if_lt X 38 (gD D_X1_at_0 14 rfl) (by decide) (fun c58 => ?_) (fun c58 => ?_)
      · replace hw := hw.1 c58
        exact v_sub [0] [1, 0] rfl rfl (t_X1_at_38 X hr hin htr  a0 x51 σ hw)
      · replace hw := hw.2 c58
        refine v_iload_n X 0 rfl (gD D_X1_at_0 15 rfl) rfl ?_
        refine v_aload_n X 1 rfl (gD D_X1_at_0 16 rfl) rfl ?_
        refine v_getR X RX1 TX1 2 2 1 (by decide) rfl gin1 1 101 RX1 (Or.inl rfl) 0 20 rfl rfl rfl (by decide) lk_fRX1_19 (gD D_X1_at_0 17 rfl) (fun o59 eo59 => ?_)
        replace hw := hw o59 eo59
        obtain ⟨a60, rfl, hw⟩ := hw
        refine v_alen X 0 rfl (by decide) (gD D_X1_at_0 18 rfl) ?_
        refine v_icmp_ge X 38 (gD D_X1_at_0 19 rfl) (by decide) (fun c61 => ?_) (fun c61 => ?_)
        · replace hw := hw.1 c61
          exact v_sub [1] [1, 0] rfl rfl (t_X1_at_38 X hr hin htr  a0 x51 σ hw)
        · replace hw := hw.2 c61
          refine v_iconst X 1 (gD D_X1_at_0 20 rfl) (by decide) ?_
          refine v_goto X 39 (gD D_X1_at_0 21 rfl) (by decide) ?_
          exact v_sub [1] [1, 0] rfl rfl (t_X1_at_39 X hr hin htr  a0 x51 1 σ hw)
set_option maxRecDepth 100000 in
set_option maxHeartbeats 4000000 in
theorem c_X1_init {l : Launch} {G : GX} (htr : l.stackTraces = false) {k n : Nat} {σ : St} {a0 : Nat} {x1 : Int32} {x2 : Int32} {Q : St → Prop} (ht : tvOk σ [(some a0, 2)]) (hw : w_X1_init k n a0 x1 x2 σ Q) : MV l G 1 σ yX1_init cX1_init 3 0 k n [va_rf (some a0), .int x1, .int x2] Q := by
  unfold w_X1_init at hw
  refine m_start RX1 (by decide) htr ht (Nat.le_of_ble_eq_true rfl) rfl (lv := [(0, va_rf (some a0)), (1, .int x1), (2, .int x2)]) (d := 1) (fun p e s m args below meth c X hr hin => ?_)
  refine v_aload_n X 0 rfl (gD D_X1_init_0 0 rfl) rfl ?_
  refine v_objInit X lk_mRX1_1 lk_i_objinit lk_c_objinit (by decide) (gD D_X1_init_0 1 rfl) ?_
  refine v_aload_n X 0 rfl (gD D_X1_init_0 2 rfl) rfl ?_
  refine v_iload_n X 2 rfl (gD D_X1_init_0 3 rfl) rfl ?_
  refine v_putIF X RX1 TX1 2 2 1 (by decide) rfl gin1 0 100 tyX1 tyX1_ok nmX1 RX1 (Or.inl rfl) 0 rfl .int (int_fit _) rfl (by decide) (Or.inl rfl) lk_fRX1_7 rfl hin rfl rfl (gD D_X1_init_0 4 rfl) (fun s51 es51 => ?_)
  replace hw := hw s51 es51
  refine v_aload_n X 0 rfl (gD D_X1_init_0 5 rfl) rfl ?_
  refine v_iconst X 0 (gD D_X1_init_0 6 rfl) (by decide) ?_
  refine v_iload_n X 1 rfl (gD D_X1_init_0 7 rfl) rfl ?_
  refine v_iload_n X 2 rfl (gD D_X1_init_0 8 rfl) rfl ?_
  refine v_imul X (gD D_X1_init_0 9 rfl) ?_
  refine v_mmax X lk_mRX1_13 lk_s_math_max lk_n_math lk_c_math_max (by simp [rf_cat, ct_i]) (gD D_X1_init_0 10 rfl) ?_
  obtain ⟨h52, h53, hw⟩ := hw
  obtain ⟨k54, n55, h56, h57, hw⟩ := hw
  refine v_newI X 20 (by decide) lk_acint h52 h53 k54 n55 h56 h57 (gD D_X1_init_0 11 rfl) (fun a58 s59 ha58 es59 => ?_)
  replace hw := hw a58 s59 ha58 es59
  refine v_putRF X RX1 TX1 2 2 1 (by decide) rfl gin1 1 101 tyX1 tyX1_ok nmX1 RX1 (Or.inl rfl) 1 rfl (fun b hb => ⟨0, by rw [← hb]; rfl⟩) rfl (by decide) (Or.inl rfl) lk_fRX1_19 rfl hin rfl rfl rfl (gD D_X1_init_0 12 rfl) (fun s60 es60 => ?_)
  replace hw := hw s60 es60
  exact v_vret X hr hw (gD D_X1_init_0 13 rfl)
set_option maxRecDepth 100000 in
set_option maxHeartbeats 4000000 in
theorem c_X1_put {l : Launch} {G : GX} (htr : l.stackTraces = false) {σ : St} {a0 : Nat} {x1 : Int32} {x2 : Int32} {x3 : Int32} {Q : St → Prop} (ht : tvOk σ [(some a0, 2)]) (hw : w_X1_put a0 x1 x2 x3 σ Q) : MV l G 1 σ yX1_put cX1_put 5 0 0 0 [va_rf (some a0), .int x1, .int x2, .int x3] Q := by
  unfold w_X1_put at hw
  refine m_start RX1 (by decide) htr ht (Nat.le_of_ble_eq_true rfl) rfl (lv := [(0, va_rf (some a0)), (1, .int x1), (2, .int x2), (3, .int x3)]) (d := 1) (fun p e s m args below meth c X hr hin => ?_)
  refine v_iload_n X 1 rfl (gD D_X1_put_0 0 rfl) rfl ?_
  refine v_aload_n X 0 rfl (gD D_X1_put_0 1 rfl) rfl ?_
  refine v_getI X RX1 TX1 2 2 1 (by decide) rfl gin1 0 100 RX1 (Or.inl rfl) 0 rfl rfl (by decide) lk_fRX1_7 (gD D_X1_put_0 2 rfl) ?_
  refine v_imul X (gD D_X1_put_0 3 rfl) ?_
  refine v_iload_n X 2 rfl (gD D_X1_put_0 4 rfl) rfl ?_
  refine v_iadd X (gD D_X1_put_0 5 rfl) ?_
  refine v_topi (fun x51 ex51 => ?_)
  replace hw := hw x51 ex51
  refine v_istore X [(4, .int x51), (0, va_rf (some a0)), (1, .int x1), (2, .int x2), (3, .int x3)] (gD D_X1_put_0 6 rfl) (by decide) rfl ?_
  refine v_iload_n X 3 rfl (gD D_X1_put_0 7 rfl) rfl ?_
  refine v_if_lt X 45 (gD D_X1_put_0 8 rfl) (by decide) (fun c52 => ?_) (fun c52 => ?_)
  · replace hw := hw.1 c52
    exact v_vret X hr hw (gD D_X1_put_0 25 rfl)
  · replace hw := hw.2 c52
    refine v_iload_n X 3 rfl (gD D_X1_put_0 9 rfl) rfl ?_
    refine v_aload_n X 1 rfl (gD D_X1_put_0 10 rfl) rfl ?_
    refine v_getI X RX1 TX1 2 2 1 (by decide) rfl gin1 0 100 RX1 (Or.inl rfl) 0 rfl rfl (by decide) lk_fRX1_7 (gD D_X1_put_0 11 rfl) ?_
    refine v_icmp_ge X 45 (gD D_X1_put_0 12 rfl) (by decide) (fun c53 => ?_) (fun c53 => ?_)
    · replace hw := hw.1 c53
      exact v_vret X hr hw (gD D_X1_put_0 25 rfl)
    · replace hw := hw.2 c53
      refine v_iload X 0 rfl (gD D_X1_put_0 13 rfl) ?_
      refine v_if_lt X 45 (gD D_X1_put_0 14 rfl) (by decide) (fun c54 => ?_) (fun c54 => ?_)
      · replace hw := hw.1 c54
        exact v_vret X hr hw (gD D_X1_put_0 25 rfl)
      · replace hw := hw.2 c54
        refine v_iload X 0 rfl (gD D_X1_put_0 15 rfl) ?_
        refine v_aload_n X 1 rfl (gD D_X1_put_0 16 rfl) rfl ?_
        refine v_getR X RX1 TX1 2 2 1 (by decide) rfl gin1 1 101 RX1 (Or.inl rfl) 0 20 rfl rfl rfl (by decide) lk_fRX1_19 (gD D_X1_put_0 17 rfl) (fun o55 eo55 => ?_)
        replace hw := hw o55 eo55
        obtain ⟨a56, rfl, hw⟩ := hw
        refine v_alen X 0 rfl (by decide) (gD D_X1_put_0 18 rfl) ?_
        refine v_icmp_ge X 45 (gD D_X1_put_0 19 rfl) (by decide) (fun c57 => ?_) (fun c57 => ?_)
        · replace hw := hw.1 c57
          exact v_vret X hr hw (gD D_X1_put_0 25 rfl)
        · replace hw := hw.2 c57
          refine v_aload_n X 1 rfl (gD D_X1_put_0 20 rfl) rfl ?_
          refine v_getR X RX1 TX1 2 2 1 (by decide) rfl gin1 1 101 RX1 (Or.inl rfl) 1 20 rfl rfl rfl (by decide) lk_fRX1_19 (gD D_X1_put_0 21 rfl) (fun o58 eo58 => ?_)
          replace hw := hw o58 eo58
          refine v_iload X 0 rfl (gD D_X1_put_0 22 rfl) ?_
          refine v_iload_n X 4 rfl (gD D_X1_put_0 23 rfl) rfl ?_
          obtain ⟨a59, rfl, hw⟩ := hw
          obtain ⟨h60, hw⟩ := hw
          refine v_iast X 0 rfl (by decide) (Or.inl rfl) h60 (gD D_X1_put_0 24 rfl) (fun s61 es61 => ?_)
          replace hw := hw s61 es61
          exact v_vret X hr hw (gD D_X1_put_0 25 rfl)
set_option maxRecDepth 100000 in
set_option maxHeartbeats 4000000 in
theorem c_X2_init {l : Launch} {G : GX} (htr : l.stackTraces = false) {σ : St} {a0 : Nat} {o1 : Option Nat} {o2 : Option Nat} {x3 : Int32} {a4 : Nat} {x5 : Int32} {Q : St → Prop} (ht : tvOk σ [(some a0, 3), (o1, 8), (o2, 5), (some a4, 6)]) (hw : w_X2_init a0 o1 o2 x3 a4 x5 σ Q) : MV l G 1 σ yX2_init cX2_init 6 0 0 0 [va_rf (some a0), va_rf o1, va_rf o2, .int x3, va_rf (some a4), .int x5] Q := by
  unfold w_X2_init at hw
  refine m_start RX2 (by decide) htr ht (by simp [lg_sl, rf_cat, ct_i]) (by simp [lv_args, rf_cat, ct_i]) (lv := [(0, va_rf (some a0)), (1, va_rf o1), (2, va_rf o2), (3, .int x3), (4, va_rf (some a4)), (5, .int x5)]) (d := 1) (fun p e s m args below meth c X hr hin => ?_)
  refine v_aload_n X 0 rfl (gD D_X2_init_0 0 rfl) rfl ?_
  refine v_objInit X lk_mRX2_3 lk_i_objinit lk_c_objinit (by decide) (gD D_X2_init_0 1 rfl) ?_
  refine v_aload_n X 0 rfl (gD D_X2_init_0 2 rfl) rfl ?_
  refine v_aload_n X 1 rfl (gD D_X2_init_0 3 rfl) rfl ?_
  refine v_putRF X RX2 TX2 6 3 2 (by decide) rfl gin2 0 200 tyX2 tyX2_ok nmX2 RX2 (Or.inl rfl) 0 rfl (fun b hb => ⟨1, by rw [← hb]; rfl⟩) rfl (by decide) (Or.inl rfl) lk_fRX2_9 rfl hin rfl rfl rfl (gD D_X2_init_0 4 rfl) (fun s51 es51 => ?_)
  replace hw := hw s51 es51
  refine v_aload_n X 0 rfl (gD D_X2_init_0 5 rfl) rfl ?_
  refine v_aload_n X 2 rfl (gD D_X2_init_0 6 rfl) rfl ?_
  refine v_putRF X RX2 TX2 6 3 2 (by decide) rfl gin2 1 201 tyX2 tyX2_ok nmX2 RX2 (Or.inl rfl) 0 rfl (fun b hb => ⟨2, by rw [← hb]; rfl⟩) rfl (by decide) (Or.inl rfl) lk_fRX2_15 rfl hin rfl rfl rfl (gD D_X2_init_0 7 rfl) (fun s52 es52 => ?_)
  replace hw := hw s52 es52
  refine v_aload_n X 0 rfl (gD D_X2_init_0 8 rfl) rfl ?_
  refine v_iload_n X 3 rfl (gD D_X2_init_0 9 rfl) rfl ?_
  refine v_putIF X RX2 TX2 6 3 2 (by decide) rfl gin2 2 202 tyX2 tyX2_ok nmX2 RX2 (Or.inl rfl) 0 rfl .int (int_fit _) rfl (by decide) (Or.inl rfl) lk_fRX2_19 rfl hin rfl rfl (gD D_X2_init_0 10 rfl) (fun s53 es53 => ?_)
  replace hw := hw s53 es53
  refine v_aload_n X 0 rfl (gD D_X2_init_0 11 rfl) rfl ?_
  refine v_aload X 4 rfl (gD D_X2_init_0 12 rfl) ?_
  refine v_putRF X RX2 TX2 6 3 2 (by decide) rfl gin2 3 203 tyX2 tyX2_ok nmX2 RX2 (Or.inl rfl) 0 rfl (fun b hb => ⟨3, by rw [← hb]; rfl⟩) rfl (by decide) (Or.inl rfl) lk_fRX2_23 rfl hin rfl rfl rfl (gD D_X2_init_0 13 rfl) (fun s54 es54 => ?_)
  replace hw := hw s54 es54
  refine v_aload_n X 0 rfl (gD D_X2_init_0 14 rfl) rfl ?_
  refine v_iload X 5 rfl (gD D_X2_init_0 15 rfl) ?_
  refine v_putI X RX2 TX2 6 3 2 (by decide) rfl gin2 4 204 tyX2 tyX2_ok nmX2 RX2 (Or.inl rfl) 0 rfl .int (int_fit _) rfl (by decide) (Or.inl rfl) lk_fRX2_27 rfl rfl (gD D_X2_init_0 16 rfl) (fun s55 es55 => ?_)
  replace hw := hw s55 es55
  exact v_vret X hr hw (gD D_X2_init_0 17 rfl)
set_option maxRecDepth 100000 in
set_option maxHeartbeats 4000000 in
theorem c_X2_isOf {l : Launch} {G : GX} (htr : l.stackTraces = false) {σ : St} {a0 : Nat} {x1 : Int32} {a2 : Nat} {Q : Int32 → St → Prop} (ht : tvOk σ [(some a0, 3), (some a2, 6)]) (hw : w_X2_isOf a0 x1 a2 σ Q) : MI l G 1 σ yX2_isOf cX2_isOf 3 (some .boolean) 0 0 0 [va_rf (some a0), .int x1, va_rf (some a2)] Q := by
  unfold w_X2_isOf at hw
  refine m_start RX2 (by decide) htr ht (Nat.le_of_ble_eq_true rfl) rfl (lv := [(0, va_rf (some a0)), (1, .int x1), (2, va_rf (some a2))]) (d := 1) (fun p e s m args below meth c X hr hin => ?_)
  refine v_aload_n X 0 rfl (gD D_X2_isOf_0 0 rfl) rfl ?_
  refine v_getI X RX2 TX2 6 3 2 (by decide) rfl gin2 2 202 RX2 (Or.inl rfl) 0 rfl rfl (by decide) lk_fRX2_19 (gD D_X2_isOf_0 1 rfl) ?_
  refine v_iload_n X 1 rfl (gD D_X2_isOf_0 2 rfl) rfl ?_
  refine v_icmp_ne X 20 (gD D_X2_isOf_0 3 rfl) (by decide) (fun c51 => ?_) (fun c51 => ?_)
  · replace hw := hw.1 c51
    refine v_iconst X 0 (gD D_X2_isOf_0 10 rfl) (by decide) ?_
    exact v_zret X hr (by decide) hw (gD D_X2_isOf_0 11 rfl)
  · replace hw := hw.2 c51
    refine v_aload_n X 0 rfl (gD D_X2_isOf_0 4 rfl) rfl ?_
    refine v_getR X RX2 TX2 6 3 2 (by decide) rfl gin2 3 203 RX2 (Or.inl rfl) 0 6 rfl rfl rfl (by decide) lk_fRX2_23 (gD D_X2_isOf_0 5 rfl) (fun o52 eo52 => ?_)
    replace hw := hw o52 eo52
    refine v_aload_n X 2 rfl (gD D_X2_isOf_0 6 rfl) rfl ?_
    refine v_acmp_ne X 20 (gD D_X2_isOf_0 7 rfl) (by decide) (fun c53 => ?_) (fun c53 => ?_)
    · replace hw := hw.1 c53
      refine v_iconst X 0 (gD D_X2_isOf_0 10 rfl) (by decide) ?_
      exact v_zret X hr (by decide) hw (gD D_X2_isOf_0 11 rfl)
    · replace hw := hw.2 c53
      refine v_iconst X 1 (gD D_X2_isOf_0 8 rfl) (by decide) ?_
      refine v_goto X 21 (gD D_X2_isOf_0 9 rfl) (by decide) ?_
      exact v_zret X hr (by decide) hw (gD D_X2_isOf_0 11 rfl)
set_option maxRecDepth 100000 in
set_option maxHeartbeats 4000000 in
theorem c_X2_turn {l : Launch} {G : GX} (htr : l.stackTraces = false) {σ : St} {a0 : Nat} {Q : Int32 → St → Prop} (ht : tvOk σ [(some a0, 3)]) (hw : w_X2_turn a0 σ Q) : MI l G 1 σ yX2_turn cX2_turn 1 (some .int) 0 0 0 [va_rf (some a0)] Q := by
  unfold w_X2_turn at hw
  refine m_start RX2 (by decide) htr ht (Nat.le_of_ble_eq_true rfl) rfl (lv := [(0, va_rf (some a0))]) (d := 1) (fun p e s m args below meth c X hr hin => ?_)
  refine v_aload_n X 0 rfl (gD D_X2_turn_0 0 rfl) rfl ?_
  refine v_getR X RX2 TX2 6 3 2 (by decide) rfl gin2 0 200 RX2 (Or.inl rfl) 0 8 rfl rfl rfl (by decide) lk_fRX2_9 (gD D_X2_turn_0 1 rfl) (fun o51 eo51 => ?_)
  replace hw := hw o51 eo51
  refine v_ifnonnull X 12 (gD D_X2_turn_0 2 rfl) (by decide) (fun a53 c52 => ?_) (fun c52 => ?_)
  · replace hw := hw.2 a53 c52
    subst c52
    refine v_aload_n X 0 rfl (gD D_X2_turn_0 5 rfl) rfl ?_
    refine v_getR X RX2 TX2 6 3 2 (by decide) rfl gin2 0 200 RX2 (Or.inl rfl) 1 8 rfl rfl rfl (by decide) lk_fRX2_9 (gD D_X2_turn_0 6 rfl) (fun o54 eo54 => ?_)
    replace hw := hw o54 eo54
    obtain ⟨a55, rfl, hw⟩ := hw
    refine v_getI X RX7 TX7 7 8 7 (by decide) rfl gin7 0 700 RX7 (Or.inl rfl) 0 rfl rfl (by decide) lk_fRX2_30 (gD D_X2_turn_0 7 rfl) ?_
    exact v_iret X hr hw (gD D_X2_turn_0 8 rfl)
  · replace hw := hw.1 c52
    subst c52
    refine v_bipush X 8 (gD D_X2_turn_0 3 rfl) (by decide) ?_
    refine v_goto X 19 (gD D_X2_turn_0 4 rfl) (by decide) ?_
    exact v_iret X hr hw (gD D_X2_turn_0 8 rfl)
set_option maxRecDepth 100000 in
set_option maxHeartbeats 4000000 in
theorem c_X3_init {l : Launch} {G : GX} (htr : l.stackTraces = false) {σ : St} {a0 : Nat} {x1 : Int32} {Q : St → Prop} (ht : tvOk σ [(some a0, 4)]) (hw : w_X3_init a0 x1 σ Q) : MV l G 1 σ yX3_init cX3_init 2 0 0 0 [va_rf (some a0), .int x1] Q := by
  unfold w_X3_init at hw
  refine m_start RX3 (by decide) htr ht (Nat.le_of_ble_eq_true rfl) rfl (lv := [(0, va_rf (some a0)), (1, .int x1)]) (d := 1) (fun p e s m args below meth c X hr hin => ?_)
  refine v_aload_n X 0 rfl (gD D_X3_init_0 0 rfl) rfl ?_
  refine v_objInit X lk_mRX3_1 lk_i_objinit lk_c_objinit (by decide) (gD D_X3_init_0 1 rfl) ?_
  refine v_aload_n X 0 rfl (gD D_X3_init_0 2 rfl) rfl ?_
  refine v_iconst X 1 (gD D_X3_init_0 3 rfl) (by decide) ?_
  refine v_putI X RX3 TX3 6 4 3 (by decide) rfl gin3 2 302 tyX3 tyX3_ok nmX3 RX3 (Or.inl rfl) 0 rfl .int (int_fit _) rfl (by decide) (Or.inl rfl) lk_fRX3_7 rfl rfl (gD D_X3_init_0 4 rfl) (fun s51 es51 => ?_)
  replace hw := hw s51 es51
  refine v_aload_n X 0 rfl (gD D_X3_init_0 5 rfl) rfl ?_
  refine v_iconst X 1 (gD D_X3_init_0 6 rfl) (by decide) ?_
  refine v_putI X RX3 TX3 6 4 3 (by decide) rfl gin3 3 303 tyX3 tyX3_ok nmX3 RX3 (Or.inl rfl) 0 rfl .int (int_fit _) rfl (by decide) (Or.inl rfl) lk_fRX3_13 rfl rfl (gD D_X3_init_0 7 rfl) (fun s52 es52 => ?_)
  replace hw := hw s52 es52
  refine v_aload_n X 0 rfl (gD D_X3_init_0 8 rfl) rfl ?_
  refine v_iconst X 1 (gD D_X3_init_0 9 rfl) (by decide) ?_
  refine v_putI X RX3 TX3 6 4 3 (by decide) rfl gin3 5 305 tyX3 tyX3_ok nmX3 RX3 (Or.inl rfl) 0 rfl .int (int_fit _) rfl (by decide) (Or.inl rfl) lk_fRX3_16 rfl rfl (gD D_X3_init_0 10 rfl) (fun s53 es53 => ?_)
  replace hw := hw s53 es53
  refine v_aload_n X 0 rfl (gD D_X3_init_0 11 rfl) rfl ?_
  refine v_iload_n X 1 rfl (gD D_X3_init_0 12 rfl) rfl ?_
  refine v_putIF X RX3 TX3 6 4 3 (by decide) rfl gin3 0 300 tyX3 tyX3_ok nmX3 RX3 (Or.inl rfl) 0 rfl .int (int_fit _) rfl (by decide) (Or.inl rfl) lk_fRX3_19 rfl hin rfl rfl (gD D_X3_init_0 13 rfl) (fun s54 es54 => ?_)
  replace hw := hw s54 es54
  exact v_vret X hr hw (gD D_X3_init_0 14 rfl)
set_option maxRecDepth 100000 in
set_option maxHeartbeats 4000000 in
theorem c_X4_init {l : Launch} {G : GX} (htr : l.stackTraces = false) {σ : St} {a0 : Nat} {a1 : Nat} {x2 : Int32} {Q : St → Prop} (ht : tvOk σ [(some a0, 5), (some a1, 4)]) (hw : w_X4_init a0 a1 x2 σ Q) : MV l G 1 σ yX4_init cX4_init 3 0 0 0 [va_rf (some a0), va_rf (some a1), .int x2] Q := by
  unfold w_X4_init at hw
  refine m_start RX4 (by decide) htr ht (Nat.le_of_ble_eq_true rfl) rfl (lv := [(0, va_rf (some a0)), (1, va_rf (some a1)), (2, .int x2)]) (d := 1) (fun p e s m args below meth c X hr hin => ?_)
  refine v_aload_n X 0 rfl (gD D_X4_init_0 0 rfl) rfl ?_
  refine v_objInit X lk_mRX4_1 lk_i_objinit lk_c_objinit (by decide) (gD D_X4_init_0 1 rfl) ?_
  refine v_aload_n X 0 rfl (gD D_X4_init_0 2 rfl) rfl ?_
  refine v_aload_n X 1 rfl (gD D_X4_init_0 3 rfl) rfl ?_
  refine v_putRF X RX4 TX4 4 5 4 (by decide) rfl gin4 0 400 tyX4 tyX4_ok nmX4 RX4 (Or.inl rfl) 0 rfl (fun b hb => ⟨1, by rw [← hb]; rfl⟩) rfl (by decide) (Or.inl rfl) lk_fRX4_7 rfl hin rfl rfl rfl (gD D_X4_init_0 4 rfl) (fun s51 es51 => ?_)
  replace hw := hw s51 es51
  refine v_aload_n X 0 rfl (gD D_X4_init_0 5 rfl) rfl ?_
  refine v_iload_n X 2 rfl (gD D_X4_init_0 6 rfl) rfl ?_
  refine v_putIF X RX4 TX4 4 5 4 (by decide) rfl gin4 1 401 tyX4 tyX4_ok nmX4 RX4 (Or.inl rfl) 0 rfl .int (int_fit _) rfl (by decide) (Or.inl rfl) lk_fRX4_13 rfl hin rfl rfl (gD D_X4_init_0 7 rfl) (fun s52 es52 => ?_)
  replace hw := hw s52 es52
  exact v_vret X hr hw (gD D_X4_init_0 8 rfl)
set_option maxRecDepth 100000 in
set_option maxHeartbeats 4000000 in
theorem c_X4_lacking {l : Launch} {G : GX} (htr : l.stackTraces = false) {σ : St} {a0 : Nat} {Q : Int32 → St → Prop} (ht : tvOk σ [(some a0, 5)]) (hw : w_X4_lacking a0 σ Q) : MI l G 1 σ yX4_lacking cX4_lacking 1 (some .int) 0 0 0 [va_rf (some a0)] Q := by
  unfold w_X4_lacking at hw
  refine m_start RX4 (by decide) htr ht (Nat.le_of_ble_eq_true rfl) rfl (lv := [(0, va_rf (some a0))]) (d := 1) (fun p e s m args below meth c X hr hin => ?_)
  refine v_aload_n X 0 rfl (gD D_X4_lacking_0 0 rfl) rfl ?_
  refine v_getI X RX4 TX4 4 5 4 (by decide) rfl gin4 1 401 RX4 (Or.inl rfl) 0 rfl rfl (by decide) lk_fRX4_13 (gD D_X4_lacking_0 1 rfl) ?_
  refine v_aload_n X 0 rfl (gD D_X4_lacking_0 2 rfl) rfl ?_
  refine v_getI X RX4 TX4 4 5 4 (by decide) rfl gin4 2 402 RX4 (Or.inl rfl) 0 rfl rfl (by decide) lk_fRX4_17 (gD D_X4_lacking_0 3 rfl) ?_
  refine v_isub X (gD D_X4_lacking_0 4 rfl) ?_
  refine v_aload_n X 0 rfl (gD D_X4_lacking_0 5 rfl) rfl ?_
  refine v_getI X RX4 TX4 4 5 4 (by decide) rfl gin4 3 403 RX4 (Or.inl rfl) 0 rfl rfl (by decide) lk_fRX4_20 (gD D_X4_lacking_0 6 rfl) ?_
  refine v_isub X (gD D_X4_lacking_0 7 rfl) ?_
  exact v_iret X hr hw (gD D_X4_lacking_0 8 rfl)
set_option maxRecDepth 100000 in
set_option maxHeartbeats 4000000 in
theorem c_X5_init {l : Launch} {G : GX} (htr : l.stackTraces = false) {σ : St} {a0 : Nat} {x1 : Int32} {a2 : Nat} {x3 : Int32} {Q : St → Prop} (ht : tvOk σ [(some a0, 6), (some a2, 4)]) (hw : w_X5_init a0 x1 a2 x3 σ Q) : MV l G 1 σ yX5_init cX5_init 4 0 0 0 [va_rf (some a0), .int x1, va_rf (some a2), .int x3] Q := by
  unfold w_X5_init at hw
  refine m_start RX5 (by decide) htr ht (Nat.le_of_ble_eq_true rfl) rfl (lv := [(0, va_rf (some a0)), (1, .int x1), (2, va_rf (some a2)), (3, .int x3)]) (d := 1) (fun p e s m args below meth c X hr hin => ?_)
  refine v_aload_n X 0 rfl (gD D_X5_init_0 0 rfl) rfl ?_
  refine v_objInit X lk_mRX5_1 lk_i_objinit lk_c_objinit (by decide) (gD D_X5_init_0 1 rfl) ?_
  refine v_aload_n X 0 rfl (gD D_X5_init_0 2 rfl) rfl ?_
  refine v_iload_n X 1 rfl (gD D_X5_init_0 3 rfl) rfl ?_
  refine v_putIF X RX5 TX5 4 6 5 (by decide) rfl gin5 0 500 tyX5 tyX5_ok nmX5 RX5 (Or.inl rfl) 0 rfl .int (int_fit _) rfl (by decide) (Or.inl rfl) lk_fRX5_7 rfl hin rfl rfl (gD D_X5_init_0 4 rfl) (fun s51 es51 => ?_)
  replace hw := hw s51 es51
  refine v_aload_n X 0 rfl (gD D_X5_init_0 5 rfl) rfl ?_
  refine v_aload_n X 2 rfl (gD D_X5_init_0 6 rfl) rfl ?_
  refine v_putRF X RX5 TX5 4 6 5 (by decide) rfl gin5 1 501 tyX5 tyX5_ok nmX5 RX5 (Or.inl rfl) 0 rfl (fun b hb => ⟨1, by rw [← hb]; rfl⟩) rfl (by decide) (Or.inl rfl) lk_fRX5_13 rfl hin rfl rfl rfl (gD D_X5_init_0 7 rfl) (fun s52 es52 => ?_)
  replace hw := hw s52 es52
  refine v_aload_n X 0 rfl (gD D_X5_init_0 8 rfl) rfl ?_
  refine v_iload_n X 3 rfl (gD D_X5_init_0 9 rfl) rfl ?_
  refine v_putIF X RX5 TX5 4 6 5 (by decide) rfl gin5 2 502 tyX5 tyX5_ok nmX5 RX5 (Or.inl rfl) 0 rfl .int (int_fit _) rfl (by decide) (Or.inl rfl) lk_fRX5_17 rfl hin rfl rfl (gD D_X5_init_0 10 rfl) (fun s53 es53 => ?_)
  replace hw := hw s53 es53
  exact v_vret X hr hw (gD D_X5_init_0 11 rfl)
set_option maxRecDepth 100000 in
set_option maxHeartbeats 4000000 in
theorem c_X6_init {l : Launch} {G : GX} (htr : l.stackTraces = false) {σ : St} {a0 : Nat} {a1 : Nat} {x2 : Int32} {Q : St → Prop} (ht : tvOk σ [(some a0, 7), (some a1, 4)]) (hw : w_X6_init a0 a1 x2 σ Q) : MV l G 1 σ yX6_init cX6_init 3 0 0 0 [va_rf (some a0), va_rf (some a1), .int x2] Q := by
  unfold w_X6_init at hw
  refine m_start RX6 (by decide) htr ht (Nat.le_of_ble_eq_true rfl) rfl (lv := [(0, va_rf (some a0)), (1, va_rf (some a1)), (2, .int x2)]) (d := 1) (fun p e s m args below meth c X hr hin => ?_)
  refine v_aload_n X 0 rfl (gD D_X6_init_0 0 rfl) rfl ?_
  refine v_objInit X lk_mRX6_1 lk_i_objinit lk_c_objinit (by decide) (gD D_X6_init_0 1 rfl) ?_
  refine v_aload_n X 0 rfl (gD D_X6_init_0 2 rfl) rfl ?_
  refine v_aload_n X 1 rfl (gD D_X6_init_0 3 rfl) rfl ?_
  refine v_putRF X RX6 TX6 3 7 6 (by decide) rfl gin6 0 600 tyX6 tyX6_ok nmX6 RX6 (Or.inl rfl) 0 rfl (fun b hb => ⟨1, by rw [← hb]; rfl⟩) rfl (by decide) (Or.inl rfl) lk_fRX6_7 rfl hin rfl rfl rfl (gD D_X6_init_0 4 rfl) (fun s51 es51 => ?_)
  replace hw := hw s51 es51
  refine v_aload_n X 0 rfl (gD D_X6_init_0 5 rfl) rfl ?_
  refine v_iload_n X 2 rfl (gD D_X6_init_0 6 rfl) rfl ?_
  refine v_putIF X RX6 TX6 3 7 6 (by decide) rfl gin6 1 601 tyX6 tyX6_ok nmX6 RX6 (Or.inl rfl) 0 rfl .int (int_fit _) rfl (by decide) (Or.inl rfl) lk_fRX6_13 rfl hin rfl rfl (gD D_X6_init_0 7 rfl) (fun s52 es52 => ?_)
  replace hw := hw s52 es52
  exact v_vret X hr hw (gD D_X6_init_0 8 rfl)
set_option maxRecDepth 100000 in
set_option maxHeartbeats 4000000 in
theorem c_X8_goToFront {l : Launch} {G : GX} (htr : l.stackTraces = false) {σ : St} {a0 : Nat} {Q : St → Prop} (ht : tvOk σ [(some a0, 9)]) (hw : w_X8_goToFront a0 σ Q) : MV l G 1 σ yX8_goToFront cX8_goToFront 1 0 0 0 [va_rf (some a0)] Q := by
  unfold w_X8_goToFront at hw
  refine m_start RX8 (by decide) htr ht (Nat.le_of_ble_eq_true rfl) rfl (lv := [(0, va_rf (some a0))]) (d := 1) (fun p e s m args below meth c X hr hin => ?_)
  refine v_aload_n X 0 rfl (gD D_X8_goToFront_0 0 rfl) rfl ?_
  refine v_iconst X (-1) (gD D_X8_goToFront_0 1 rfl) (by decide) ?_
  refine v_putI X RX8 TX8 4 9 8 (by decide) rfl gin8 1 801 tyX8 tyX8_ok nmX8 RX8 (Or.inl rfl) 0 rfl .int (int_fit _) rfl (by decide) (Or.inl rfl) lk_fRX8_18 rfl rfl (gD D_X8_goToFront_0 2 rfl) (fun s51 es51 => ?_)
  replace hw := hw s51 es51
  refine v_aload_n X 0 rfl (gD D_X8_goToFront_0 3 rfl) rfl ?_
  refine v_iconst X 0 (gD D_X8_goToFront_0 4 rfl) (by decide) ?_
  refine v_putI X RX8 TX8 4 9 8 (by decide) rfl gin8 2 802 tyX8 tyX8_ok nmX8 RX8 (Or.inl rfl) 0 rfl .int (int_fit _) rfl (by decide) (Or.inl rfl) lk_fRX8_49 rfl rfl (gD D_X8_goToFront_0 5 rfl) (fun s52 es52 => ?_)
  replace hw := hw s52 es52
  exact v_vret X hr hw (gD D_X8_goToFront_0 6 rfl)
set_option maxRecDepth 100000 in
set_option maxHeartbeats 4000000 in
theorem c_X9_init {l : Launch} {G : GX} (htr : l.stackTraces = false) {σ : St} {a0 : Nat} {Q : St → Prop} (ht : tvOk σ [(some a0, 10)]) (hw : w_X9_init a0 σ Q) : MV l G 1 σ yX9_init cX9_init 1 0 0 0 [va_rf (some a0)] Q := by
  unfold w_X9_init at hw
  refine m_start RX9 (by decide) htr ht (Nat.le_of_ble_eq_true rfl) rfl (lv := [(0, va_rf (some a0))]) (d := 1) (fun p e s m args below meth c X hr hin => ?_)
  refine v_aload_n X 0 rfl (gD D_X9_init_0 0 rfl) rfl ?_
  refine v_objInit X lk_mRX9_3 lk_i_objinit lk_c_objinit (by decide) (gD D_X9_init_0 1 rfl) ?_
  refine v_aload_n X 0 rfl (gD D_X9_init_0 2 rfl) rfl ?_
  refine v_bipush X 100 (gD D_X9_init_0 3 rfl) (by decide) ?_
  refine v_putI X RX9 TX9 5 10 9 (by decide) rfl gin9 1 901 tyX9 tyX9_ok nmX9 RX9 (Or.inl rfl) 0 rfl .int (int_fit _) rfl (by decide) (Or.inl rfl) lk_fRX9_9 rfl rfl (gD D_X9_init_0 4 rfl) (fun s51 es51 => ?_)
  replace hw := hw s51 es51
  exact v_vret X hr hw (gD D_X9_init_0 5 rfl)
set_option maxRecDepth 100000 in
set_option maxHeartbeats 4000000 in
theorem c_X0_freePieces {l : Launch} {G : GX} (htr : l.stackTraces = false) {σ : St} {a0 : Nat} {x1 : Int32} {x2 : Int32} {Q : Int32 → St → Prop} (ht : tvOk σ [(some a0, 1)]) (hw : w_X0_freePieces a0 x1 x2 σ Q) : MI l G 1 σ yX0_freePieces cX0_freePieces 3 (some .int) 1 0 0 [va_rf (some a0), .int x1, .int x2] Q := by
  unfold w_X0_freePieces at hw
  refine m_start RX0 (by decide) htr ht (Nat.le_of_ble_eq_true rfl) rfl (lv := [(0, va_rf (some a0)), (1, .int x1), (2, .int x2)]) (d := 1) (fun p e s m args below meth c X hr hin => ?_)
  refine v_aload_n X 0 rfl (gD D_X0_freePieces_0 0 rfl) rfl ?_
  refine v_getR X RX0 TX0 8 1 0 (by decide) rfl gin0 0 0 RX0 (Or.inl rfl) 0 2 rfl rfl rfl (by decide) lk_fRX0_14 (gD D_X0_freePieces_0 1 rfl) (fun o51 eo51 => ?_)
  replace hw := hw o51 eo51
  refine v_iload_n X 1 rfl (gD D_X0_freePieces_0 2 rfl) rfl ?_
  refine v_iload_n X 2 rfl (gD D_X0_freePieces_0 3 rfl) rfl ?_
  obtain ⟨a52, rfl, hw⟩ := hw
  refine v_callVi X (As := [.int x1, .int x2]) (rest := []) (nA := 2) 0 0 0 0 (fun ht => c_X1_at htr (ht.sub [0] rfl) hw) (Or.inl rfl) 0 (κ := 2) rfl (by decide) (rfl : gCl[1]? = some (RX1, TX1, 2)) lk_vRX0_45 (by decide +kernel) rfl rfl (by decide) (by decide) (by decide) rfl rfl (gD D_X0_freePieces_0 4 rfl) (fun x53 s54 hq _ _ => ?_)
  replace hw := hq
  clear hq
  refine v_aload_n X 0 rfl (gD D_X0_freePieces_0 5 rfl) rfl ?_
  refine v_getR X RX0 TX0 8 1 0 (by decide) rfl gin0 3 3 RX0 (Or.inl rfl) 1 2 rfl rfl rfl (by decide) lk_fRX0_26 (gD D_X0_freePieces_0 6 rfl) (fun o55 eo55 => ?_)
  replace hw := hw o55 eo55
  refine v_iload_n X 1 rfl (gD D_X0_freePieces_0 7 rfl) rfl ?_
  refine v_iload_n X 2 rfl (gD D_X0_freePieces_0 8 rfl) rfl ?_
  obtain ⟨a56, rfl, hw⟩ := hw
  refine v_callVi X (As := [.int x1, .int x2]) (rest := [.int x53]) (nA := 2) 0 0 0 0 (fun ht => c_X1_at htr (ht.sub [0] rfl) hw) (Or.inl rfl) 0 (κ := 2) rfl (by decide) (rfl : gCl[1]? = some (RX1, TX1, 2)) lk_vRX0_45 (by decide +kernel) rfl rfl (by simp [rf_cat, ct_i]) (by decide) (by decide) rfl rfl (gD D_X0_freePieces_0 9 rfl) (fun x57 s58 hq _ _ => ?_)
  replace hw := hq
  clear hq
  refine v_isub X (gD D_X0_freePieces_0 10 rfl) ?_
  exact v_iret X hr hw (gD D_X0_freePieces_0 11 rfl)
set_option maxRecDepth 100000 in
set_option maxHeartbeats 4000000 in
theorem c_X0_hasOrAwaits {l : Launch} {G : GX} (htr : l.stackTraces = false) {σ : St} {a0 : Nat} {x1 : Int32} {x2 : Int32} {Q : Int32 → St → Prop} (ht : tvOk σ [(some a0, 1)]) (hw : w_X0_hasOrAwaits a0 x1 x2 σ Q) : MI l G 1 σ yX0_hasOrAwaits cX0_hasOrAwaits 3 (some .boolean) 1 0 0 [va_rf (some a0), .int x1, .int x2] Q := by
  unfold w_X0_hasOrAwaits at hw
  refine m_start RX0 (by decide) htr ht (Nat.le_of_ble_eq_true rfl) rfl (lv := [(0, va_rf (some a0)), (1, .int x1), (2, .int x2)]) (d := 1) (fun p e s m args below meth c X hr hin => ?_)
  refine v_aload_n X 0 rfl (gD D_X0_hasOrAwaits_0 0 rfl) rfl ?_
  refine v_getR X RX0 TX0 8 1 0 (by decide) rfl gin0 1 1 RX0 (Or.inl rfl) 0 2 rfl rfl rfl (by decide) lk_fRX0_20 (gD D_X0_hasOrAwaits_0 1 rfl) (fun o51 eo51 => ?_)
  replace hw := hw o51 eo51
  refine v_iload_n X 1 rfl (gD D_X0_hasOrAwaits_0 2 rfl) rfl ?_
  refine v_iload_n X 2 rfl (gD D_X0_hasOrAwaits_0 3 rfl) rfl ?_
  obtain ⟨a52, rfl, hw⟩ := hw
  refine v_callVi X (As := [.int x1, .int x2]) (rest := []) (nA := 2) 0 0 0 0 (fun ht => c_X1_at htr (ht.sub [0] rfl) hw) (Or.inl rfl) 0 (κ := 2) rfl (by decide) (rfl : gCl[1]? = some (RX1, TX1, 2)) lk_vRX0_45 (by decide +kernel) rfl rfl (by decide) (by decide) (by decide) rfl rfl (gD D_X0_hasOrAwaits_0 4 rfl) (fun x53 s54 hq _ _ => ?_)
  replace hw := hq
  clear hq
  refine v_if_gt X 24 (gD D_X0_hasOrAwaits_0 5 rfl) (by decide) (fun c55 => ?_) (fun c55 => ?_)
  · replace hw := hw.1 c55
    refine v_iconst X 1 (gD D_X0_hasOrAwaits_0 12 rfl) (by decide) ?_
    refine v_goto X 29 (gD D_X0_hasOrAwaits_0 13 rfl) (by decide) ?_
    exact v_zret X hr (by decide) hw (gD D_X0_hasOrAwaits_0 15 rfl)
  · replace hw := hw.2 c55
    refine v_aload_n X 0 rfl (gD D_X0_hasOrAwaits_0 6 rfl) rfl ?_
    refine v_getR X RX0 TX0 8 1 0 (by decide) rfl gin0 4 4 RX0 (Or.inl rfl) 1 2 rfl rfl rfl (by decide) lk_fRX0_29 (gD D_X0_hasOrAwaits_0 7 rfl) (fun o56 eo56 => ?_)
    replace hw := hw o56 eo56
    refine v_iload_n X 1 rfl (gD D_X0_hasOrAwaits_0 8 rfl) rfl ?_
    refine v_iload_n X 2 rfl (gD D_X0_hasOrAwaits_0 9 rfl) rfl ?_
    obtain ⟨a57, rfl, hw⟩ := hw
    refine v_callVi X (As := [.int x1, .int x2]) (rest := []) (nA := 2) 0 0 0 0 (fun ht => c_X1_at htr (ht.sub [0] rfl) hw) (Or.inl rfl) 0 (κ := 2) rfl (by decide) (rfl : gCl[1]? = some (RX1, TX1, 2)) lk_vRX0_45 (by decide +kernel) rfl rfl (by decide) (by decide) (by decide) rfl rfl (gD D_X0_hasOrAwaits_0 10 rfl) (fun x58 s59 hq _ _ => ?_)
    replace hw := hq
    clear hq
    refine v_if_le X 28 (gD D_X0_hasOrAwaits_0 11 rfl) (by decide) (fun c60 => ?_) (fun c60 => ?_)
    · replace hw := hw.1 c60
      refine v_iconst X 0 (gD D_X0_hasOrAwaits_0 14 rfl) (by decide) ?_
      exact v_zret X hr (by decide) hw (gD D_X0_hasOrAwaits_0 15 rfl)
    · replace hw := hw.2 c60
      refine v_iconst X 1 (gD D_X0_hasOrAwaits_0 12 rfl) (by decide) ?_
      refine v_goto X 29 (gD D_X0_hasOrAwaits_0 13 rfl) (by decide) ?_
      exact v_zret X hr (by decide) hw (gD D_X0_hasOrAwaits_0 15 rfl)
set_option maxRecDepth 100000 in
set_option maxHeartbeats 4000000 in
theorem c_X0_init {l : Launch} {G : GX} (htr : l.stackTraces = false) {k n : Nat} {σ : St} {a0 : Nat} {Q : St → Prop} (ht : tvOk σ [(some a0, 1)]) (hw : w_X0_init k n a0 σ Q) : MV l G 1 σ yX0_init cX0_init 1 1 k n [va_rf (some a0)] Q := by
  unfold w_X0_init at hw
  refine m_start RX0 (by decide) htr ht (Nat.le_of_ble_eq_true rfl) rfl (lv := [(0, va_rf (some a0))]) (d := 1) (fun p e s m args below meth c X hr hin => ?_)
  refine v_aload_n X 0 rfl (gD D_X0_init_0 0 rfl) rfl ?_
  refine v_objInit X lk_mRX0_3 lk_i_objinit lk_c_objinit (by decide) (gD D_X0_init_0 1 rfl) ?_
  refine v_aload_n X 0 rfl (gD D_X0_init_0 2 rfl) rfl ?_
  obtain ⟨k51, n52, h53, h54, hw⟩ := hw
  refine v_new X RX1 TX1 2 2 1 (by decide) rfl gin1 tyX1 tyX1_ok lk_kRX0_9 lk_tX1 lk_n_RX1 dfl_X1 k51 n52 h53 h54 (gD D_X0_init_0 3 rfl) (fun a55 s56 ha55 es56 => ?_)
  replace hw := hw a55 s56 ha55 es56
  refine v_dup X (gD D_X0_init_0 4 rfl) (rf_cat _) ?_
  refine v_bipush X 28 (gD D_X0_init_0 5 rfl) (by decide) ?_
  refine v_bipush X 12 (gD D_X0_init_0 6 rfl) (by decide) ?_
  obtain ⟨k59, n60, k61, n62, h63, h64, hw⟩ := hw
  refine v_callIv X (As := [.int 28, .int 12]) (rest := [va_rf (some a55), va_rf (some a0)]) (nA := 2) k59 n60 k61 n62 (fun ht => c_X1_init htr (ht.sub [0] rfl) hw) (Or.inl rfl) lk_c_X1_init lk_n_RX1 lk_mRX0_11 lk_i_X1_init rfl (by decide +kernel) rfl rfl (by simp [rf_cat, ct_i]) (by decide) (by decide) h63 h64 (gD D_X0_init_0 7 rfl) (fun s58 hq _ _ => ?_)
  replace hw := hq
  clear hq
  refine v_putRF X RX0 TX0 8 1 0 (by decide) rfl gin0 0 0 tyX0 tyX0_ok nmX0 RX0 (Or.inl rfl) 1 rfl (fun b hb => ⟨0, by rw [← hb]; rfl⟩) rfl (by decide) (Or.inl rfl) lk_fRX0_14 rfl hin rfl rfl rfl (gD D_X0_init_0 8 rfl) (fun s65 es65 => ?_)
  replace hw := hw s65 es65
  refine v_aload_n X 0 rfl (gD D_X0_init_0 9 rfl) rfl ?_
  obtain ⟨k66, n67, h68, h69, hw⟩ := hw
  refine v_new X RX1 TX1 2 2 1 (by decide) rfl gin1 tyX1 tyX1_ok lk_kRX0_9 lk_tX1 lk_n_RX1 dfl_X1 k66 n67 h68 h69 (gD D_X0_init_0 10 rfl) (fun a70 s71 ha70 es71 => ?_)
  replace hw := hw a70 s71 ha70 es71
  refine v_dup X (gD D_X0_init_0 11 rfl) (rf_cat _) ?_
  refine v_bipush X 28 (gD D_X0_init_0 12 rfl) (by decide) ?_
  refine v_bipush X 6 (gD D_X0_init_0 13 rfl) (by decide) ?_
  obtain ⟨k74, n75, k76, n77, h78, h79, hw⟩ := hw
  refine v_callIv X (As := [.int 28, .int 6]) (rest := [va_rf (some a70), va_rf (some a0)]) (nA := 2) k74 n75 k76 n77 (fun ht => c_X1_init htr (ht.sub [0] rfl) hw) (Or.inl rfl) lk_c_X1_init lk_n_RX1 lk_mRX0_11 lk_i_X1_init rfl (by decide +kernel) rfl rfl (by simp [rf_cat, ct_i]) (by decide) (by decide) h78 h79 (gD D_X0_init_0 14 rfl) (fun s73 hq _ _ => ?_)
  replace hw := hq
  clear hq
  refine v_putRF X RX0 TX0 8 1 0 (by decide) rfl gin0 1 1 tyX0 tyX0_ok nmX0 RX0 (Or.inl rfl) 2 rfl (fun b hb => ⟨0, by rw [← hb]; rfl⟩) rfl (by decide) (Or.inl rfl) lk_fRX0_20 rfl hin rfl rfl rfl (gD D_X0_init_0 15 rfl) (fun s80 es80 => ?_)
  replace hw := hw s80 es80
  refine v_aload_n X 0 rfl (gD D_X0_init_0 16 rfl) rfl ?_
  obtain ⟨k81, n82, h83, h84, hw⟩ := hw
  refine v_new X RX1 TX1 2 2 1 (by decide) rfl gin1 tyX1 tyX1_ok lk_kRX0_9 lk_tX1 lk_n_RX1 dfl_X1 k81 n82 h83 h84 (gD D_X0_init_0 17 rfl) (fun a85 s86 ha85 es86 => ?_)
  replace hw := hw a85 s86 ha85 es86
  refine v_dup X (gD D_X0_init_0 18 rfl) (rf_cat _) ?_
  refine v_bipush X 28 (gD D_X0_init_0 19 rfl) (by decide) ?_
  refine v_bipush X 12 (gD D_X0_init_0 20 rfl) (by decide) ?_
  obtain ⟨k89, n90, k91, n92, h93, h94, hw⟩ := hw
  refine v_callIv X (As := [.int 28, .int 12]) (rest := [va_rf (some a85), va_rf (some a0)]) (nA := 2) k89 n90 k91 n92 (fun ht => c_X1_init htr (ht.sub [0] rfl) hw) (Or.inl rfl) lk_c_X1_init lk_n_RX1 lk_mRX0_11 lk_i_X1_init rfl (by decide +kernel) rfl rfl (by simp [rf_cat, ct_i]) (by decide) (by decide) h93 h94 (gD D_X0_init_0 21 rfl) (fun s88 hq _ _ => ?_)
  replace hw := hq
  clear hq
  refine v_putRF X RX0 TX0 8 1 0 (by decide) rfl gin0 2 2 tyX0 tyX0_ok nmX0 RX0 (Or.inl rfl) 3 rfl (fun b hb => ⟨0, by rw [← hb]; rfl⟩) rfl (by decide) (Or.inl rfl) lk_fRX0_23 rfl hin rfl rfl rfl (gD D_X0_init_0 22 rfl) (fun s95 es95 => ?_)
  replace hw := hw s95 es95
  refine v_aload_n X 0 rfl (gD D_X0_init_0 23 rfl) rfl ?_
  obtain ⟨k96, n97, h98, h99, hw⟩ := hw
  refine v_new X RX1 TX1 2 2 1 (by decide) rfl gin1 tyX1 tyX1_ok lk_kRX0_9 lk_tX1 lk_n_RX1 dfl_X1 k96 n97 h98 h99 (gD D_X0_init_0 24 rfl) (fun a100 s101 ha100 es101 => ?_)
  replace hw := hw a100 s101 ha100 es101
  refine v_dup X (gD D_X0_init_0 25 rfl) (rf_cat _) ?_
  refine v_bipush X 28 (gD D_X0_init_0 26 rfl) (by decide) ?_
  refine v_bipush X 12 (gD D_X0_init_0 27 rfl) (by decide) ?_
  obtain ⟨k104, n105, k106, n107, h108, h109, hw⟩ := hw
  refine v_callIv X (As := [.int 28, .int 12]) (rest := [va_rf (some a100), va_rf (some a0)]) (nA := 2) k104 n105 k106 n107 (fun ht => c_X1_init htr (ht.sub [0] rfl) hw) (Or.inl rfl) lk_c_X1_init lk_n_RX1 lk_mRX0_11 lk_i_X1_init rfl (by decide +kernel) rfl rfl (by simp [rf_cat, ct_i]) (by decide) (by decide) h108 h109 (gD D_X0_init_0 28 rfl) (fun s103 hq _ _ => ?_)
  replace hw := hq
  clear hq
  refine v_putRF X RX0 TX0 8 1 0 (by decide) rfl gin0 3 3 tyX0 tyX0_ok nmX0 RX0 (Or.inl rfl) 4 rfl (fun b hb => ⟨0, by rw [← hb]; rfl⟩) rfl (by decide) (Or.inl rfl) lk_fRX0_26 rfl hin rfl rfl rfl (gD D_X0_init_0 29 rfl) (fun s110 es110 => ?_)
  replace hw := hw s110 es110
  refine v_aload_n X 0 rfl (gD D_X0_init_0 30 rfl) rfl ?_
  obtain ⟨k111, n112, h113, h114, hw⟩ := hw
  refine v_new X RX1 TX1 2 2 1 (by decide) rfl gin1 tyX1 tyX1_ok lk_kRX0_9 lk_tX1 lk_n_RX1 dfl_X1 k111 n112 h113 h114 (gD D_X0_init_0 31 rfl) (fun a115 s116 ha115 es116 => ?_)
  replace hw := hw a115 s116 ha115 es116
  refine v_dup X (gD D_X0_init_0 32 rfl) (rf_cat _) ?_
  refine v_bipush X 18 (gD D_X0_init_0 33 rfl) (by decide) ?_
  refine v_bipush X 6 (gD D_X0_init_0 34 rfl) (by decide) ?_
  obtain ⟨k119, n120, k121, n122, h123, h124, hw⟩ := hw
  refine v_callIv X (As := [.int 18, .int 6]) (rest := [va_rf (some a115), va_rf (some a0)]) (nA := 2) k119 n120 k121 n122 (fun ht => c_X1_init htr (ht.sub [0] rfl) hw) (Or.inl rfl) lk_c_X1_init lk_n_RX1 lk_mRX0_11 lk_i_X1_init rfl (by decide +kernel) rfl rfl (by simp [rf_cat, ct_i]) (by decide) (by decide) h123 h124 (gD D_X0_init_0 35 rfl) (fun s118 hq _ _ => ?_)
  replace hw := hq
  clear hq
  refine v_putRF X RX0 TX0 8 1 0 (by decide) rfl gin0 4 4 tyX0 tyX0_ok nmX0 RX0 (Or.inl rfl) 5 rfl (fun b hb => ⟨0, by rw [← hb]; rfl⟩) rfl (by decide) (Or.inl rfl) lk_fRX0_29 rfl hin rfl rfl rfl (gD D_X0_init_0 36 rfl) (fun s125 es125 => ?_)
  replace hw := hw s125 es125
  refine v_aload_n X 0 rfl (gD D_X0_init_0 37 rfl) rfl ?_
  obtain ⟨k126, n127, h128, h129, hw⟩ := hw
  refine v_new X RX1 TX1 2 2 1 (by decide) rfl gin1 tyX1 tyX1_ok lk_kRX0_9 lk_tX1 lk_n_RX1 dfl_X1 k126 n127 h128 h129 (gD D_X0_init_0 38 rfl) (fun a130 s131 ha130 es131 => ?_)
  replace hw := hw a130 s131 ha130 es131
  refine v_dup X (gD D_X0_init_0 39 rfl) (rf_cat _) ?_
  refine v_bipush X 18 (gD D_X0_init_0 40 rfl) (by decide) ?_
  refine v_bipush X 12 (gD D_X0_init_0 41 rfl) (by decide) ?_
  obtain ⟨k134, n135, k136, n137, h138, h139, hw⟩ := hw
  refine v_callIv X (As := [.int 18, .int 12]) (rest := [va_rf (some a130), va_rf (some a0)]) (nA := 2) k134 n135 k136 n137 (fun ht => c_X1_init htr (ht.sub [0] rfl) hw) (Or.inl rfl) lk_c_X1_init lk_n_RX1 lk_mRX0_11 lk_i_X1_init rfl (by decide +kernel) rfl rfl (by simp [rf_cat, ct_i]) (by decide) (by decide) h138 h139 (gD D_X0_init_0 42 rfl) (fun s133 hq _ _ => ?_)
  replace hw := hq
  clear hq
  refine v_putRF X RX0 TX0 8 1 0 (by decide) rfl gin0 5 5 tyX0 tyX0_ok nmX0 RX0 (Or.inl rfl) 6 rfl (fun b hb => ⟨0, by rw [← hb]; rfl⟩) rfl (by decide) (Or.inl rfl) lk_fRX0_32 rfl hin rfl rfl rfl (gD D_X0_init_0 43 rfl) (fun s140 es140 => ?_)
  replace hw := hw s140 es140
  refine v_aload_n X 0 rfl (gD D_X0_init_0 44 rfl) rfl ?_
  refine v_sipush X 128 (gD D_X0_init_0 45 rfl) (by decide) ?_
  obtain ⟨h141, h142, hw⟩ := hw
  obtain ⟨k143, n144, h145, h146, hw⟩ := hw
  refine v_newI X 20 (by decide) lk_acint h141 h142 k143 n144 h145 h146 (gD D_X0_init_0 46 rfl) (fun a147 s148 ha147 es148 => ?_)
  replace hw := hw a147 s148 ha147 es148
  refine v_putR X RX0 TX0 8 1 0 (by decide) rfl gin0 6 6 tyX0 tyX0_ok nmX0 RX0 (Or.inl rfl) 7 rfl (fun b hb => ⟨0, by rw [← hb]; rfl⟩) rfl (by decide) (Or.inl rfl) lk_fRX0_35 rfl rfl rfl (gD D_X0_init_0 47 rfl) (fun s149 es149 => ?_)
  replace hw := hw s149 es149
  exact v_vret X hr hw (gD D_X0_init_0 48 rfl)
set_option maxRecDepth 100000 in
set_option maxHeartbeats 4000000 in
theorem c_X0_isDoubted {l : Launch} {G : GX} (htr : l.stackTraces = false) {σ : St} {a0 : Nat} {x1 : Int32} {x2 : Int32} {x3 : Int32} {Q : Int32 → St → Prop} (ht : tvOk σ [(some a0, 1)]) (hw : w_X0_isDoubted a0 x1 x2 x3 σ Q) : MI l G 1 σ yX0_isDoubted cX0_isDoubted 4 (some .boolean) 1 0 0 [va_rf (some a0), .int x1, .int x2, .int x3] Q := by
  unfold w_X0_isDoubted at hw
  refine m_start RX0 (by decide) htr ht (Nat.le_of_ble_eq_true rfl) rfl (lv := [(0, va_rf (some a0)), (1, .int x1), (2, .int x2), (3, .int x3)]) (d := 1) (fun p e s m args below meth c X hr hin => ?_)
  refine v_aload_n X 0 rfl (gD D_X0_isDoubted_0 0 rfl) rfl ?_
  refine v_getR X RX0 TX0 8 1 0 (by decide) rfl gin0 5 5 RX0 (Or.inl rfl) 0 2 rfl rfl rfl (by decide) lk_fRX0_32 (gD D_X0_isDoubted_0 1 rfl) (fun o51 eo51 => ?_)
  replace hw := hw o51 eo51
  refine v_iload_n X 1 rfl (gD D_X0_isDoubted_0 2 rfl) rfl ?_
  refine v_iload_n X 2 rfl (gD D_X0_isDoubted_0 3 rfl) rfl ?_
  obtain ⟨a52, rfl, hw⟩ := hw
  refine v_callVi X (As := [.int x1, .int x2]) (rest := []) (nA := 2) 0 0 0 0 (fun ht => c_X1_at htr (ht.sub [0] rfl) hw) (Or.inl rfl) 0 (κ := 2) rfl (by decide) (rfl : gCl[1]? = some (RX1, TX1, 2)) lk_vRX0_45 (by decide +kernel) rfl rfl (by decide) (by decide) (by decide) rfl rfl (gD D_X0_isDoubted_0 4 rfl) (fun x53 s54 hq _ _ => ?_)
  replace hw := hq
  clear hq
  refine v_iload_n X 3 rfl (gD D_X0_isDoubted_0 5 rfl) rfl ?_
  refine v_iconst X 1 (gD D_X0_isDoubted_0 6 rfl) (by decide) ?_
  refine v_iadd X (gD D_X0_isDoubted_0 7 rfl) ?_
  refine v_icmp_ne X 19 (gD D_X0_isDoubted_0 8 rfl) (by decide) (fun c55 => ?_) (fun c55 => ?_)
  · replace hw := hw.1 c55
    refine v_iconst X 0 (gD D_X0_isDoubted_0 11 rfl) (by decide) ?_
    exact v_zret X hr (by decide) hw (gD D_X0_isDoubted_0 12 rfl)
  · replace hw := hw.2 c55
    refine v_iconst X 1 (gD D_X0_isDoubted_0 9 rfl) (by decide) ?_
    refine v_goto X 20 (gD D_X0_isDoubted_0 10 rfl) (by decide) ?_
    exact v_zret X hr (by decide) hw (gD D_X0_isDoubted_0 12 rfl)
set_option maxRecDepth 100000 in
set_option maxHeartbeats 4000000 in
theorem t_X0_keepDoubt_26 {p : Program} {l : Launch} {e : Env} {s : State} {m : MethodId} {args : Array Value} {below : List Frame} {meth : Method} {c : Code} {G : GX} {σ0 : St} {mc ms : Nat} {Q : St → Prop} (X : VC p l (rmD 1 mc ms) s m args meth c G 1 mc ms 4 RX0 cX0_keepDoubt) (hr : meth.sig.returnType = none) (hin : meth.name = yX0_keepDoubt.name) (htr : l.stackTraces = false) : ∀ (os0 : Option Nat) (xs1 : Int32) (xs2 : Int32) (xs3 : Int32) (σ : St), w_X0_keepDoubt_26 Q  os0 xs1 xs2 xs3 σ → V p l e (rmD 1 mc ms) s m args below meth c (MQ below (va_Qv Q (gB G 1 σ0) (GA G)) args s mc ms (GA G)) G 1 σ0 mc ms 4 σ 0 0 [(os0, 2)] 26 [] [.int xs3, .int xs2, .int xs1, va_rf os0] := by
  intro os0 xs1 xs2 xs3 σ hw
  unfold w_X0_keepDoubt_26 at hw
  obtain ⟨a57, rfl, hw⟩ := hw
  refine v_callVv X (As := [.int xs1, .int xs2, .int xs3]) (rest := []) (nA := 3) 0 0 0 0 (fun ht => c_X1_put htr (ht.sub [0] rfl) hw) (Or.inl rfl) 0 (κ := 2) rfl (by decide) (rfl : gCl[1]? = some (RX1, TX1, 2)) lk_vRX0_69 (by decide +kernel) rfl rfl (by decide) (by decide) (by decide) rfl rfl (gD D_X0_keepDoubt_0 16 rfl) (fun s59 hq _ _ => ?_)
  replace hw := hq
  clear hq
  exact v_vret X hr hw (gD D_X0_keepDoubt_0 17 rfl)
set_option maxRecDepth 100000 in
set_option maxHeartbeats 4000000 in
theorem c_X0_keepDoubt {l : Launch} {G : GX} (htr : l.stackTraces = false) {σ : St} {a0 : Nat} {x1 : Int32} {x2 : Int32} {x3 : Int32} {Q : St → Prop} (ht : tvOk σ [(some a0, 1)]) (hw : w_X0_keepDoubt a0 x1 x2 x3 σ Q) : MV l G 1 σ yX0_keepDoubt cX0_keepDoubt 4 1 0 0 [va_rf (some a0), .int x1, .int x2, .int x3] Q := by
  unfold w_X0_keepDoubt at hw
  refine m_start RX0 (by decide) htr ht (Nat.le_of_ble_eq_true rfl) rfl (lv := [(0, va_rf (some a0)), (1, .int x1), (2, .int x2), (3, .int x3)]) (d := 1) (fun p e s m args below meth c X hr hin => ?_)
  refine v_aload_n X 0 rfl (gD D_X0_keepDoubt_0 0 rfl) rfl ?_
  refine v_getR X RX0 TX0 8 1 0 (by decide) rfl gin0 5 5 RX0 (Or.inl rfl) 0 2 rfl rfl rfl (by decide) lk_fRX0_32 (gD D_X0_keepDoubt_0 1 rfl) (fun o51 eo51 => ?_)
  replace hw := hw o51 eo51
  refine v_iload_n X 1 rfl (gD D_X0_keepDoubt_0 2 rfl) rfl ?_
  refine v_iload_n X 2 rfl (gD D_X0_keepDoubt_0 3 rfl) rfl ?_
  refine v_iload_n X 3 rfl (gD D_X0_keepDoubt_0 4 rfl) rfl ?_
  refine v_aload_n X 0 rfl (gD D_X0_keepDoubt_0 5 rfl) rfl ?_
  refine v_getR X RX0 TX0 8 1 0 (by decide) rfl gin0 0 0 RX0 (Or.inl rfl) 1 2 rfl rfl rfl (by decide) lk_fRX0_14 (gD D_X0_keepDoubt_0 6 rfl) (fun o52 eo52 => ?_)
  replace hw := hw o52 eo52
  refine v_iload_n X 1 rfl (gD D_X0_keepDoubt_0 7 rfl) rfl ?_
  refine v_iload_n X 2 rfl (gD D_X0_keepDoubt_0 8 rfl) rfl ?_
  obtain ⟨a53, rfl, hw⟩ := hw
  refine v_callVi X (As := [.int x1, .int x2]) (rest := [.int x3, .int x2, .int x1, va_rf o51]) (nA := 2) 0 0 0 0 (fun ht => c_X1_at htr (ht.sub [0] rfl) hw) (Or.inl rfl) 0 (κ := 2) rfl (by decide) (rfl : gCl[1]? = some (RX1, TX1, 2)) lk_vRX0_45 (by decide +kernel) rfl rfl (by simp [rf_cat, ct_i]) (by decide) (by decide) rfl rfl (gD D_X0_keepDoubt_0 9 rfl) (fun x54 s55 hq _ _ => ?_)
  replace hw := hq
  clear hq
  refine v_icmp_ne X 23 (gD D_X0_keepDoubt_0 10 rfl) (by decide) (fun c56 => ?_) (fun c56 => ?_)
  · replace hw := hw.1 c56
    refine v_iload_n X 3 rfl (gD D_X0_keepDoubt_0 13 rfl) rfl ?_
    refine v_iconst X 1 (gD D_X0_keepDoubt_0 14 rfl) (by decide) ?_
    refine v_iadd X (gD D_X0_keepDoubt_0 15 rfl) ?_
    exact v_sub [1] [] rfl rfl (t_X0_keepDoubt_26 X hr hin htr  o51 x1 x2 (x3 + 1) s55 hw)
  · replace hw := hw.2 c56
    refine v_iconst X 0 (gD D_X0_keepDoubt_0 11 rfl) (by decide) ?_
    refine v_goto X 26 (gD D_X0_keepDoubt_0 12 rfl) (by decide) ?_
    exact v_sub [1] [] rfl rfl (t_X0_keepDoubt_26 X hr hin htr  o51 x1 x2 0 s55 hw)
set_option maxRecDepth 100000 in
set_option maxHeartbeats 4000000 in
theorem t_X0_note_47 {p : Program} {l : Launch} {e : Env} {s : State} {m : MethodId} {args : Array Value} {below : List Frame} {meth : Method} {c : Code} {G : GX} {σ0 : St} {mc ms : Nat} {Q : St → Prop} (X : VC p l (rmD 1 mc ms) s m args meth c G 1 mc ms 6 RX0 cX0_note) (hr : meth.sig.returnType = none) (hin : meth.name = yX0_note.name) (htr : l.stackTraces = false) : ∀ (a0 : Nat) (x1 : Int32) (x2 : Int32) (x3 : Int32) (x4 : Int32) (x5 : Int32) (σ : St) (k n : Nat), w_X0_note_47 Q  a0 x1 x2 x3 x4 x5 σ k n → V p l e (rmD 1 mc ms) s m args below meth c (MQ below (va_Qv Q (gB G 1 σ0) (GA G)) args s mc ms (GA G)) G 1 σ0 mc ms 6 σ k n [(some a0, 1)] 47 [(0, va_rf (some a0)), (1, .int x1), (2, .int x2), (3, .int x3), (4, .int x4), (5, .int x5)] [] := by
  intro a0 x1 x2 x3 x4 x5 σ k n hw
  unfold w_X0_note_47 at hw
  refine v_aload_n X 0 rfl (gD D_X0_note_0 25 rfl) rfl ?_
  refine v_getI X RX0 TX0 8 1 0 (by decide) rfl gin0 7 7 RX0 (Or.inl rfl) 0 rfl rfl (by decide) lk_fRX0_76 (gD D_X0_note_0 26 rfl) ?_
  refine v_if_lt X 117 (gD D_X0_note_0 27 rfl) (by decide) (fun c55 => ?_) (fun c55 => ?_)
  · replace hw := hw.1 c55
    exact v_vret X hr hw (gD D_X0_note_0 66 rfl)
  · replace hw := hw.2 c55
    refine v_iload X 5 rfl (gD D_X0_note_0 28 rfl) ?_
    refine v_aload_n X 0 rfl (gD D_X0_note_0 29 rfl) rfl ?_
    refine v_getR X RX0 TX0 8 1 0 (by decide) rfl gin0 6 6 RX0 (Or.inl rfl) 0 20 rfl rfl rfl (by decide) lk_fRX0_35 (gD D_X0_note_0 30 rfl) (fun o56 eo56 => ?_)
    replace hw := hw o56 eo56
    obtain ⟨a57, rfl, hw⟩ := hw
    refine v_alen X 0 rfl (by decide) (gD D_X0_note_0 31 rfl) ?_
    refine v_icmp_gt X 117 (gD D_X0_note_0 32 rfl) (by decide) (fun c58 => ?_) (fun c58 => ?_)
    · replace hw := hw.1 c58
      exact v_vret X hr hw (gD D_X0_note_0 66 rfl)
    · replace hw := hw.2 c58
      refine v_aload_n X 0 rfl (gD D_X0_note_0 33 rfl) rfl ?_
      refine v_getR X RX0 TX0 8 1 0 (by decide) rfl gin0 6 6 RX0 (Or.inl rfl) 1 20 rfl rfl rfl (by decide) lk_fRX0_35 (gD D_X0_note_0 34 rfl) (fun o59 eo59 => ?_)
      replace hw := hw o59 eo59
      refine v_aload_n X 0 rfl (gD D_X0_note_0 35 rfl) rfl ?_
      refine v_getI X RX0 TX0 8 1 0 (by decide) rfl gin0 7 7 RX0 (Or.inl rfl) 2 rfl rfl (by decide) lk_fRX0_76 (gD D_X0_note_0 36 rfl) ?_
      refine v_iload_n X 1 rfl (gD D_X0_note_0 37 rfl) rfl ?_
      obtain ⟨a60, rfl, hw⟩ := hw
      obtain ⟨h61, hw⟩ := hw
      refine v_iast X 0 rfl (by decide) (Or.inl rfl) h61 (gD D_X0_note_0 38 rfl) (fun s62 es62 => ?_)
      replace hw := hw s62 es62
      refine v_aload_n X 0 rfl (gD D_X0_note_0 39 rfl) rfl ?_
      refine v_getR X RX0 TX0 8 1 0 (by decide) rfl gin0 6 6 RX0 (Or.inl rfl) 2 20 rfl rfl rfl (by decide) lk_fRX0_35 (gD D_X0_note_0 40 rfl) (fun o63 eo63 => ?_)
      replace hw := hw o63 eo63
      refine v_aload_n X 0 rfl (gD D_X0_note_0 41 rfl) rfl ?_
      refine v_getI X RX0 TX0 8 1 0 (by decide) rfl gin0 7 7 RX0 (Or.inl rfl) 3 rfl rfl (by decide) lk_fRX0_76 (gD D_X0_note_0 42 rfl) ?_
      refine v_iconst X 1 (gD D_X0_note_0 43 rfl) (by decide) ?_
      refine v_iadd X (gD D_X0_note_0 44 rfl) ?_
      refine v_iload_n X 2 rfl (gD D_X0_note_0 45 rfl) rfl ?_
      obtain ⟨a64, rfl, hw⟩ := hw
      obtain ⟨h65, hw⟩ := hw
      refine v_iast X 0 rfl (by decide) (Or.inl rfl) h65 (gD D_X0_note_0 46 rfl) (fun s66 es66 => ?_)
      replace hw := hw s66 es66
      refine v_aload_n X 0 rfl (gD D_X0_note_0 47 rfl) rfl ?_
      refine v_getR X RX0 TX0 8 1 0 (by decide) rfl gin0 6 6 RX0 (Or.inl rfl) 3 20 rfl rfl rfl (by decide) lk_fRX0_35 (gD D_X0_note_0 48 rfl) (fun o67 eo67 => ?_)
      replace hw := hw o67 eo67
      refine v_aload_n X 0 rfl (gD D_X0_note_0 49 rfl) rfl ?_
      refine v_getI X RX0 TX0 8 1 0 (by decide) rfl gin0 7 7 RX0 (Or.inl rfl) 4 rfl rfl (by decide) lk_fRX0_76 (gD D_X0_note_0 50 rfl) ?_
      refine v_iconst X 2 (gD D_X0_note_0 51 rfl) (by decide) ?_
      refine v_iadd X (gD D_X0_note_0 52 rfl) ?_
      refine v_iload_n X 3 rfl (gD D_X0_note_0 53 rfl) rfl ?_
      obtain ⟨a68, rfl, hw⟩ := hw
      obtain ⟨h69, hw⟩ := hw
      refine v_iast X 0 rfl (by decide) (Or.inl rfl) h69 (gD D_X0_note_0 54 rfl) (fun s70 es70 => ?_)
      replace hw := hw s70 es70
      refine v_aload_n X 0 rfl (gD D_X0_note_0 55 rfl) rfl ?_
      refine v_getR X RX0 TX0 8 1 0 (by decide) rfl gin0 6 6 RX0 (Or.inl rfl) 4 20 rfl rfl rfl (by decide) lk_fRX0_35 (gD D_X0_note_0 56 rfl) (fun o71 eo71 => ?_)
      replace hw := hw o71 eo71
      refine v_aload_n X 0 rfl (gD D_X0_note_0 57 rfl) rfl ?_
      refine v_getI X RX0 TX0 8 1 0 (by decide) rfl gin0 7 7 RX0 (Or.inl rfl) 5 rfl rfl (by decide) lk_fRX0_76 (gD D_X0_note_0 58 rfl) ?_
      refine v_iconst X 3 (gD D_X0_note_0 59 rfl) (by decide) ?_
      refine v_iadd X (gD D_X0_note_0 60 rfl) ?_
      refine v_iload X 4 rfl (gD D_X0_note_0 61 rfl) ?_
      obtain ⟨a72, rfl, hw⟩ := hw
      obtain ⟨h73, hw⟩ := hw
      refine v_iast X 0 rfl (by decide) (Or.inl rfl) h73 (gD D_X0_note_0 62 rfl) (fun s74 es74 => ?_)
      replace hw := hw s74 es74
      refine v_aload_n X 0 rfl (gD D_X0_note_0 63 rfl) rfl ?_
      refine v_iload X 5 rfl (gD D_X0_note_0 64 rfl) ?_
      refine v_putI X RX0 TX0 8 1 0 (by decide) rfl gin0 7 7 tyX0 tyX0_ok nmX0 RX0 (Or.inl rfl) 5 rfl .int (int_fit _) rfl (by decide) (Or.inl rfl) lk_fRX0_76 rfl rfl (gD D_X0_note_0 65 rfl) (fun s75 es75 => ?_)
      replace hw := hw s75 es75
      exact v_vret X hr hw (gD D_X0_note_0 66 rfl)
set_option maxRecDepth 100000 in
set_option maxHeartbeats 4000000 in
theorem c_X0_note {l : Launch} {G : GX} (htr : l.stackTraces = false) {k n : Nat} {σ : St} {a0 : Nat} {x1 : Int32} {x2 : Int32} {x3 : Int32} {x4 : Int32} {Q : St → Prop} (ht : tvOk σ [(some a0, 1)]) (hw : w_X0_note k n a0 x1 x2 x3 x4 σ Q) : MV l G 1 σ yX0_note cX0_note 6 1 k n [va_rf (some a0), .int x1, .int x2, .int x3, .int x4] Q := by
  unfold w_X0_note at hw
  refine m_start RX0 (by decide) htr ht (Nat.le_of_ble_eq_true rfl) rfl (lv := [(0, va_rf (some a0)), (1, .int x1), (2, .int x2), (3, .int x3), (4, .int x4)]) (d := 1) (fun p e s m args below meth c X hr hin => ?_)
  refine v_aload_n X 0 rfl (gD D_X0_note_0 0 rfl) rfl ?_
  refine v_getI X RX0 TX0 8 1 0 (by decide) rfl gin0 7 7 RX0 (Or.inl rfl) 0 rfl rfl (by decide) lk_fRX0_76 (gD D_X0_note_0 1 rfl) ?_
  refine v_iconst X 4 (gD D_X0_note_0 2 rfl) (by decide) ?_
  refine v_iadd X (gD D_X0_note_0 3 rfl) ?_
  refine v_topi (fun x51 ex51 => ?_)
  replace hw := hw x51 ex51
  refine v_istore X [(5, .int x51), (0, va_rf (some a0)), (1, .int x1), (2, .int x2), (3, .int x3), (4, .int x4)] (gD D_X0_note_0 4 rfl) (by decide) rfl ?_
  refine v_iload X 0 rfl (gD D_X0_note_0 5 rfl) ?_
  refine v_aload_n X 1 rfl (gD D_X0_note_0 6 rfl) rfl ?_
  refine v_getR X RX0 TX0 8 1 0 (by decide) rfl gin0 6 6 RX0 (Or.inl rfl) 0 20 rfl rfl rfl (by decide) lk_fRX0_35 (gD D_X0_note_0 7 rfl) (fun o52 eo52 => ?_)
  replace hw := hw o52 eo52
  obtain ⟨a53, rfl, hw⟩ := hw
  refine v_alen X 0 rfl (by decide) (gD D_X0_note_0 8 rfl) ?_
  refine v_icmp_le X 47 (gD D_X0_note_0 9 rfl) (by decide) (fun c54 => ?_) (fun c54 => ?_)
  · replace hw := hw.1 c54
    exact v_sub [1] [1, 2, 3, 4, 5, 0] rfl rfl (t_X0_note_47 X hr hin htr  a0 x1 x2 x3 x4 x51 σ k n hw)
  · replace hw := hw.2 c54
    refine v_aload_n X 1 rfl (gD D_X0_note_0 10 rfl) rfl ?_
    refine v_getR X RX0 TX0 8 1 0 (by decide) rfl gin0 6 6 RX0 (Or.inl rfl) 1 20 rfl rfl rfl (by decide) lk_fRX0_35 (gD D_X0_note_0 11 rfl) (fun o76 eo76 => ?_)
    replace hw := hw o76 eo76
    obtain ⟨a77, rfl, hw⟩ := hw
    refine v_alen X 0 rfl (by decide) (gD D_X0_note_0 12 rfl) ?_
    refine v_sipush X 4096 (gD D_X0_note_0 13 rfl) (by decide) ?_
    refine v_icmp_ge X 47 (gD D_X0_note_0 14 rfl) (by decide) (fun c78 => ?_) (fun c78 => ?_)
    · replace hw := hw.1 c78
      exact v_sub [2] [1, 2, 3, 4, 5, 0] rfl rfl (t_X0_note_47 X hr hin htr  a0 x1 x2 x3 x4 x51 σ k n hw)
    · replace hw := hw.2 c78
      refine v_aload_n X 1 rfl (gD D_X0_note_0 15 rfl) rfl ?_
      refine v_aload_n X 1 rfl (gD D_X0_note_0 16 rfl) rfl ?_
      refine v_getR X RX0 TX0 8 1 0 (by decide) rfl gin0 6 6 RX0 (Or.inl rfl) 2 20 rfl rfl rfl (by decide) lk_fRX0_35 (gD D_X0_note_0 17 rfl) (fun o79 eo79 => ?_)
      replace hw := hw o79 eo79
      refine v_iconst X 2 (gD D_X0_note_0 18 rfl) (by decide) ?_
      refine v_aload_n X 1 rfl (gD D_X0_note_0 19 rfl) rfl ?_
      refine v_getR X RX0 TX0 8 1 0 (by decide) rfl gin0 6 6 RX0 (Or.inl rfl) 3 20 rfl rfl rfl (by decide) lk_fRX0_35 (gD D_X0_note_0 20 rfl) (fun o80 eo80 => ?_)
      replace hw := hw o80 eo80
      obtain ⟨a81, rfl, hw⟩ := hw
      refine v_alen X 0 rfl (by decide) (gD D_X0_note_0 21 rfl) ?_
      refine v_imul X (gD D_X0_note_0 22 rfl) ?_
      obtain ⟨a82, rfl, hw⟩ := hw
      obtain ⟨k85, n86, k87, n88, h89, h90, hw⟩ := hw
      refine v_callTq X (As := [va_rf (some a82), .int (2 * (nI (sL σ a81)))]) (rest := [va_rf (some a0)]) (nA := 2) k85 n86 k87 n88 (fun ht => c_J7_copyOf_59c91 htr (ht.sub [1] rfl) hw) (Or.inl rfl) (by decide) lk_sRX0_79 (by decide +kernel) rfl rfl (by simp [rf_cat, ct_i]) (by decide) (by decide) h89 h90 (gD D_X0_note_0 23 rfl) (fun o83 s84 hq _ _ => ?_)
      replace hw := hq
      clear hq
      refine v_putR X RX0 TX0 8 1 0 (by decide) rfl gin0 6 6 tyX0 tyX0_ok nmX0 RX0 (Or.inl rfl) 5 rfl (fun b hb => ⟨0, by rw [← hb]; rfl⟩) rfl (by decide) (Or.inl rfl) lk_fRX0_35 rfl rfl rfl (gD D_X0_note_0 24 rfl) (fun s91 es91 => ?_)
      replace hw := hw s91 es91
      exact v_sub [5] [1, 2, 3, 4, 5, 0] rfl rfl (t_X0_note_47 X hr hin htr  a0 x1 x2 x3 x4 x51 s91 k87 n88 hw)
set_option maxRecDepth 100000 in
set_option maxHeartbeats 4000000 in
theorem t_X11_bar_74 {p : Program} {l : Launch} {e : Env} {s : State} {m : MethodId} {args : Array Value} {below : List Frame} {meth : Method} {c : Code} {G : GX} {σ0 : St} {mc ms : Nat} {Q : Int32 → St → Prop} {Y : Nat → St → Prop} (X : VC p l (rmD 1 mc ms) s m args meth c G 1 mc ms 6 RX11 cX11_bar) (hr : meth.sig.returnType = (some .boolean)) (hin : meth.name = yX11_bar.name) (htr : l.stackTraces = false) (hex : ∀ x ∈ c.exceptionTable.toList, False) : ∀ (x4 : Int32) (as0 : Nat) (xs1 : Int32) (σ : St) (k n : Nat), w_X11_bar_74 Q Y  x4 as0 xs1 σ k n → V p l e (rmD 1 mc ms) s m args below meth c (vx_MQ below (va_Qi Q (gB G 1 σ0) (GA G)) (gX G 1 σ0 Y) args s mc ms (GA G)) G 1 σ0 mc ms 6 σ k n [(some as0, 12)] 74 [(4, .int x4)] [.int xs1, va_rf (some as0)] := by
  intro x4 as0 xs1 σ k n hw
  unfold w_X11_bar_74 at hw
  refine v_putI X RX11 TX11 19 12 11 (by decide) rfl gin11 15 1115 tyX11 tyX11_ok nmX11 RX11 (Or.inl rfl) 0 rfl .int (int_fit _) rfl (by decide) (Or.inl rfl) lk_fRX11_139 rfl rfl (gD D_X11_bar_0 46 rfl) (fun s61 es61 => ?_)
  replace hw := hw s61 es61
  refine v_iload X 0 rfl (gD D_X11_bar_0 47 rfl) ?_
  exact v_X (v_zret X hr hw.1 hw.2 (gD D_X11_bar_0 48 rfl))
set_option maxRecDepth 100000 in
set_option maxHeartbeats 4000000 in
theorem c_X11_bar {l : Launch} {G : GX} (htr : l.stackTraces = false) {k n : Nat} {σ : St} {a0 : Nat} {x1 : Int32} {x2 : Int32} {x3 : Int32} {Q : Int32 → St → Prop} {Y : Nat → St → Prop} (ht : tvOk σ [(some a0, 12)]) (hw : w_X11_bar k n a0 x1 x2 x3 σ Q Y) : MIX l G 1 σ yX11_bar cX11_bar 6 (some .boolean) 1 k n [va_rf (some a0), .int x1, .int x2, .int x3] Q Y := by
  unfold w_X11_bar at hw
  refine m_startX RX11 (by decide) htr ht (Nat.le_of_ble_eq_true rfl) rfl (lv := [(0, va_rf (some a0)), (1, .int x1), (2, .int x2), (3, .int x3)]) (d := 1) (fun p e s m args below meth c X hr hin hex => ?_)
  refine v_iload_n X 1 rfl (gD D_X11_bar_0 0 rfl) rfl ?_
  refine v_callSi X (As := [.int x1]) (rest := []) (nA := 1) 0 0 k n (fun ht => c_X11_isGroup htr (ht.sub [] rfl) hw) (Or.inl rfl) lk_sRX11_120 (by decide +kernel) rfl rfl (by decide) (by decide) (by decide) rfl rfl (gD D_X11_bar_0 1 rfl) (fun x51 s52 hq _ _ => ?_)
  replace hw := hq
  clear hq
  refine v_if_eq X 14 (gD D_X11_bar_0 2 rfl) (by decide) (fun c53 => ?_) (fun c53 => ?_)
  · replace hw := hw.1 c53
    exact v_throw X hex 1 (by decide +kernel) lk_xRX11_83 lk_xi_1 lk_xaRX11_85 lk_xgRX11_83_85 (gD D_X11_bar_0 6 rfl) (gD D_X11_bar_0 7 rfl) (gD D_X11_bar_0 8 rfl) (gD D_X11_bar_0 9 rfl) (by decide) hw
  · replace hw := hw.2 c53
    refine v_iload_n X 2 rfl (gD D_X11_bar_0 3 rfl) rfl ?_
    refine v_callSi X (As := [.int x2]) (rest := []) (nA := 1) 0 0 k n (fun ht => c_X11_isGroup htr (ht.sub [] rfl) hw) (Or.inl rfl) lk_sRX11_120 (by decide +kernel) rfl rfl (by decide) (by decide) (by decide) rfl rfl (gD D_X11_bar_0 4 rfl) (fun x54 s55 hq _ _ => ?_)
    replace hw := hq
    clear hq
    refine v_if_ne X 22 (gD D_X11_bar_0 5 rfl) (by decide) (fun c56 => ?_) (fun c56 => ?_)
    · replace hw := hw.1 c56
      refine v_aload_n X 0 rfl (gD D_X11_bar_0 10 rfl) rfl ?_
      refine v_getI X RX11 TX11 19 12 11 (by decide) rfl gin11 15 1115 RX11 (Or.inl rfl) 0 rfl rfl (by decide) lk_fRX11_139 (gD D_X11_bar_0 11 rfl) ?_
      refine v_iload_n X 1 rfl (gD D_X11_bar_0 12 rfl) rfl ?_
      refine v_iload_n X 2 rfl (gD D_X11_bar_0 13 rfl) rfl ?_
      refine v_callSi X (As := [.int (sI s55 1115 a0), .int x1, .int x2]) (rest := []) (nA := 3) 0 0 k n (fun ht => c_X11_isBarred htr (ht.sub [] rfl) hw) (Or.inl rfl) lk_sRX11_142 (by decide +kernel) rfl rfl (by decide) (by decide) (by decide) rfl rfl (gD D_X11_bar_0 14 rfl) (fun x57 s58 hq _ _ => ?_)
      replace hw := hq
      clear hq
      refine v_istore X [(4, .int x57), (0, va_rf (some a0)), (1, .int x1), (2, .int x2), (3, .int x3)] (gD D_X11_bar_0 15 rfl) (by decide) rfl ?_
      refine v_iconst X 1 (gD D_X11_bar_0 16 rfl) (by decide) ?_
      refine v_iload_n X 2 rfl (gD D_X11_bar_0 17 rfl) rfl ?_
      refine v_iconst X 4 (gD D_X11_bar_0 18 rfl) (by decide) ?_
      refine v_imul X (gD D_X11_bar_0 19 rfl) ?_
      refine v_iload_n X 3 rfl (gD D_X11_bar_0 20 rfl) rfl ?_
      refine v_iadd X (gD D_X11_bar_0 21 rfl) ?_
      refine v_ishl X (gD D_X11_bar_0 22 rfl) ?_
      refine v_iconst X 1 (gD D_X11_bar_0 23 rfl) (by decide) ?_
      refine v_iload_n X 3 rfl (gD D_X11_bar_0 24 rfl) rfl ?_
      refine v_iconst X 4 (gD D_X11_bar_0 25 rfl) (by decide) ?_
      refine v_imul X (gD D_X11_bar_0 26 rfl) ?_
      refine v_iload_n X 2 rfl (gD D_X11_bar_0 27 rfl) rfl ?_
      refine v_iadd X (gD D_X11_bar_0 28 rfl) ?_
      refine v_ishl X (gD D_X11_bar_0 29 rfl) ?_
      refine v_ior X (gD D_X11_bar_0 30 rfl) ?_
      refine v_topi (fun x59 ex59 => ?_)
      replace hw := hw x59 ex59
      refine v_istore X [(5, .int x59), (4, .int x57), (0, va_rf (some a0)), (1, .int x1), (2, .int x2), (3, .int x3)] (gD D_X11_bar_0 31 rfl) (by decide) rfl ?_
      refine v_aload_n X 2 rfl (gD D_X11_bar_0 32 rfl) rfl ?_
      refine v_iload_n X 5 rfl (gD D_X11_bar_0 33 rfl) rfl ?_
      refine v_if_eq X 65 (gD D_X11_bar_0 34 rfl) (by decide) (fun c60 => ?_) (fun c60 => ?_)
      · replace hw := hw.1 c60
        refine v_aload_n X 2 rfl (gD D_X11_bar_0 40 rfl) rfl ?_
        refine v_getI X RX11 TX11 19 12 11 (by decide) rfl gin11 15 1115 RX11 (Or.inl rfl) 0 rfl rfl (by decide) lk_fRX11_139 (gD D_X11_bar_0 41 rfl) ?_
        refine v_iload X 0 rfl (gD D_X11_bar_0 42 rfl) ?_
        refine v_iconst X (-1) (gD D_X11_bar_0 43 rfl) (by decide) ?_
        refine v_ixor X (gD D_X11_bar_0 44 rfl) ?_
        refine v_iand X (gD D_X11_bar_0 45 rfl) ?_
        exact v_sub [0] [1] rfl rfl (t_X11_bar_74 X hr hin htr hex  x57 a0 ((sI s58 1115 a0) &&& (x59 ^^^ (-1))) s58 k n hw)
      · replace hw := hw.2 c60
        refine v_aload_n X 2 rfl (gD D_X11_bar_0 35 rfl) rfl ?_
        refine v_getI X RX11 TX11 19 12 11 (by decide) rfl gin11 15 1115 RX11 (Or.inl rfl) 0 rfl rfl (by decide) lk_fRX11_139 (gD D_X11_bar_0 36 rfl) ?_
        refine v_iload X 0 rfl (gD D_X11_bar_0 37 rfl) ?_
        refine v_ior X (gD D_X11_bar_0 38 rfl) ?_
        refine v_goto X 74 (gD D_X11_bar_0 39 rfl) (by decide) ?_
        exact v_sub [0] [1] rfl rfl (t_X11_bar_74 X hr hin htr hex  x57 a0 ((sI s58 1115 a0) ||| x59) s58 k n hw)
    · replace hw := hw.2 c56
      exact v_throw X hex 1 (by decide +kernel) lk_xRX11_83 lk_xi_1 lk_xaRX11_85 lk_xgRX11_83_85 (gD D_X11_bar_0 6 rfl) (gD D_X11_bar_0 7 rfl) (gD D_X11_bar_0 8 rfl) (gD D_X11_bar_0 9 rfl) (by decide) hw
set_option maxRecDepth 100000 in
set_option maxHeartbeats 4000000 in
theorem t_X11_fitsIntoBox_94 {p : Program} {l : Launch} {e : Env} {s : State} {m : MethodId} {args : Array Value} {below : List Frame} {meth : Method} {c : Code} {G : GX} {σ0 : St} {mc ms : Nat} {Q : Int32 → St → Prop} (X : VC p l (rmD 1 mc ms) s m args meth c G 1 mc ms 9 RX11 cX11_fitsIntoBox) (hr : meth.sig.returnType = (some .boolean)) (hin : meth.name = yX11_fitsIntoBox.name) (htr : l.stackTraces = false) {K54 : Nat → Int32 → Nat → Int32 → Option Nat → Int32 → Int32 → St → Prop} (hK54 : ∀ (a0 : Nat) (x1 : Int32) (a2 : Nat) (x3 : Int32) (o4 : Option Nat) (x5 : Int32) (x6 : Int32) (σ : St), K54 a0 x1 a2 x3 o4 x5 x6 σ → V p l e (rmD 1 mc ms) s m args below meth c (MQ below (va_Qi Q (gB G 1 σ0) (GA G)) args s mc ms (GA G)) G 1 σ0 mc ms 9 σ 0 0 [(some a0, 12), (some a2, 4), (o4, 25)] 54 [(0, va_rf (some a0)), (1, .int x1), (2, va_rf (some a2)), (3, .int x3), (4, va_rf o4), (5, .int x5), (6, .int x6)] []) : ∀ (a0 : Nat) (x1 : Int32) (a2 : Nat) (x3 : Int32) (o4 : Option Nat) (x5 : Int32) (x6 : Int32) (o7 : Option Nat) (xs0 : Int32) (σ : St), w_X11_fitsIntoBox_94 Q K54 a0 x1 a2 x3 o4 x5 x6 o7 xs0 σ → V p l e (rmD 1 mc ms) s m args below meth c (MQ below (va_Qi Q (gB G 1 σ0) (GA G)) args s mc ms (GA G)) G 1 σ0 mc ms 9 σ 0 0 [(some a0, 12), (some a2, 4), (o4, 25), (o7, 4)] 94 [(0, va_rf (some a0)), (1, .int x1), (2, va_rf (some a2)), (3, .int x3), (4, va_rf o4), (5, .int x5), (6, .int x6), (7, va_rf o7)] [.int xs0] := by
  intro a0 x1 a2 x3 o4 x5 x6 o7 xs0 σ hw
  unfold w_X11_fitsIntoBox_94 at hw
  refine v_istore X [(8, .int xs0), (0, va_rf (some a0)), (1, .int x1), (2, va_rf (some a2)), (3, .int x3), (4, va_rf o4), (5, .int x5), (6, .int x6), (7, va_rf o7)] (gD D_X11_fitsIntoBox_0 52 rfl) (by decide) (by simp [List.filter_cons, rf_cat]) ?_
  refine v_iload X 0 rfl (gD D_X11_fitsIntoBox_0 53 rfl) ?_
  refine v_if_eq X 125 (gD D_X11_fitsIntoBox_0 54 rfl) (by decide) (fun c74 => ?_) (fun c74 => ?_)
  · replace hw := hw.1 c74
    refine v_iinc X (x6 + 1) 7 rfl [(6, .int (x6 + 1)), (8, .int xs0), (0, va_rf (some a0)), (1, .int x1), (2, va_rf (some a2)), (3, .int x3), (4, va_rf o4), (5, .int x5), (7, va_rf o7)] (gD D_X11_fitsIntoBox_0 67 rfl) rfl (by decide) rfl ?_
    refine v_goto X 54 (gD D_X11_fitsIntoBox_0 68 rfl) (by decide) ?_
    exact v_sub [0, 1, 2] [2, 3, 4, 5, 6, 7, 0] rfl rfl (hK54 a0 x1 a2 x3 o4 x5 (x6 + 1) σ hw)
  · replace hw := hw.2 c74
    refine v_aload X 8 rfl (gD D_X11_fitsIntoBox_0 55 rfl) ?_
    refine v_aload_n X 3 rfl (gD D_X11_fitsIntoBox_0 56 rfl) rfl ?_
    refine v_acmp_eq X 125 (gD D_X11_fitsIntoBox_0 57 rfl) (by decide) (fun c75 => ?_) (fun c75 => ?_)
    · replace hw := hw.1 c75
      refine v_iinc X (x6 + 1) 7 rfl [(6, .int (x6 + 1)), (8, .int xs0), (0, va_rf (some a0)), (1, .int x1), (2, va_rf (some a2)), (3, .int x3), (4, va_rf o4), (5, .int x5), (7, va_rf o7)] (gD D_X11_fitsIntoBox_0 67 rfl) rfl (by decide) rfl ?_
      refine v_goto X 54 (gD D_X11_fitsIntoBox_0 68 rfl) (by decide) ?_
      exact v_sub [0, 1, 2] [2, 3, 4, 5, 6, 7, 0] rfl rfl (hK54 a0 x1 a2 x3 o4 x5 (x6 + 1) σ hw)
    · replace hw := hw.2 c75
      refine v_iload_n X 4 rfl (gD D_X11_fitsIntoBox_0 58 rfl) rfl ?_
      refine v_aload X 8 rfl (gD D_X11_fitsIntoBox_0 59 rfl) ?_
      obtain ⟨a76, rfl, hw⟩ := hw
      refine v_getI X RX3 TX3 6 4 3 (by decide) rfl gin3 4 304 RX3 (Or.inl rfl) 3 rfl rfl (by decide) lk_fRX11_133 (gD D_X11_fitsIntoBox_0 60 rfl) ?_
      refine v_aload_n X 3 rfl (gD D_X11_fitsIntoBox_0 61 rfl) rfl ?_
      refine v_getI X RX3 TX3 6 4 3 (by decide) rfl gin3 4 304 RX3 (Or.inl rfl) 1 rfl rfl (by decide) lk_fRX11_133 (gD D_X11_fitsIntoBox_0 62 rfl) ?_
      refine v_callSi X (As := [.int x3, .int (sI σ 304 a76), .int (sI σ 304 a2)]) (rest := []) (nA := 3) 0 0 0 0 (fun ht => c_X11_isBarred htr (ht.sub [] rfl) hw) (Or.inl rfl) lk_sRX11_142 (by decide +kernel) rfl rfl (by decide) (by decide) (by decide) rfl rfl (gD D_X11_fitsIntoBox_0 63 rfl) (fun x77 s78 hq _ _ => ?_)
      replace hw := hq
      clear hq
      refine v_if_eq X 125 (gD D_X11_fitsIntoBox_0 64 rfl) (by decide) (fun c79 => ?_) (fun c79 => ?_)
      · replace hw := hw.1 c79
        refine v_iinc X (x6 + 1) 7 rfl [(6, .int (x6 + 1)), (8, .int xs0), (0, va_rf (some a0)), (1, .int x1), (2, va_rf (some a2)), (3, .int x3), (4, va_rf o4), (5, .int x5), (7, va_rf (some a76))] (gD D_X11_fitsIntoBox_0 67 rfl) rfl (by decide) rfl ?_
        refine v_goto X 54 (gD D_X11_fitsIntoBox_0 68 rfl) (by decide) ?_
        exact v_sub [0, 1, 2] [2, 3, 4, 5, 6, 7, 0] rfl rfl (hK54 a0 x1 a2 x3 o4 x5 (x6 + 1) s78 hw)
      · replace hw := hw.2 c79
        refine v_iconst X 0 (gD D_X11_fitsIntoBox_0 65 rfl) (by decide) ?_
        exact v_zret X hr (by decide) hw (gD D_X11_fitsIntoBox_0 66 rfl)
set_option maxRecDepth 100000 in
set_option maxHeartbeats 4000000 in
theorem t_X11_fitsIntoBox_54 {p : Program} {l : Launch} {e : Env} {s : State} {m : MethodId} {args : Array Value} {below : List Frame} {meth : Method} {c : Code} {G : GX} {σ0 : St} {mc ms : Nat} {Q : Int32 → St → Prop} (X : VC p l (rmD 1 mc ms) s m args meth c G 1 mc ms 9 RX11 cX11_fitsIntoBox) (hr : meth.sig.returnType = (some .boolean)) (hin : meth.name = yX11_fitsIntoBox.name) (htr : l.stackTraces = false) : ∀ (f : Nat) (a0 : Nat) (x1 : Int32) (a2 : Nat) (x3 : Int32) (o4 : Option Nat) (x5 : Int32) (x6 : Int32) (σ : St), w_X11_fitsIntoBox_54 Q  f a0 x1 a2 x3 o4 x5 x6 σ → V p l e (rmD 1 mc ms) s m args below meth c (MQ below (va_Qi Q (gB G 1 σ0) (GA G)) args s mc ms (GA G)) G 1 σ0 mc ms 9 σ 0 0 [(some a0, 12), (some a2, 4), (o4, 25)] 54 [(0, va_rf (some a0)), (1, .int x1), (2, va_rf (some a2)), (3, .int x3), (4, va_rf o4), (5, .int x5), (6, .int x6)] [] := by
  intro f
  induction f with
  | zero => intro a0 x1 a2 x3 o4 x5 x6 σ hw; exact hw.elim
  | succ f ih =>
    intro a0 x1 a2 x3 o4 x5 x6 σ hw
    unfold w_X11_fitsIntoBox_54 at hw
    refine v_iload X 6 rfl (gD D_X11_fitsIntoBox_0 30 rfl) ?_
    refine v_iload X 5 rfl (gD D_X11_fitsIntoBox_0 31 rfl) ?_
    refine v_icmp_ge X 131 (gD D_X11_fitsIntoBox_0 32 rfl) (by decide) (fun c64 => ?_) (fun c64 => ?_)
    · replace hw := hw.1 c64
      refine v_iconst X 1 (gD D_X11_fitsIntoBox_0 69 rfl) (by decide) ?_
      exact v_zret X hr (by decide) hw (gD D_X11_fitsIntoBox_0 70 rfl)
    · replace hw := hw.2 c64
      refine v_aload X 4 rfl (gD D_X11_fitsIntoBox_0 33 rfl) ?_
      refine v_iload X 6 rfl (gD D_X11_fitsIntoBox_0 34 rfl) ?_
      obtain ⟨a65, rfl, hw⟩ := hw
      obtain ⟨h66, hw⟩ := hw
      refine v_aald X 2 4 rfl (by decide) h66 (gD D_X11_fitsIntoBox_0 35 rfl) (fun o67 eo67 => ?_)
      replace hw := hw o67 eo67
      refine v_astore X [(7, va_rf o67), (0, va_rf (some a0)), (1, .int x1), (2, va_rf (some a2)), (3, .int x3), (4, va_rf (some a65)), (5, .int x5), (6, .int x6)] (gD D_X11_fitsIntoBox_0 36 rfl) (by decide) rfl ?_
      refine v_aload_n X 1 rfl (gD D_X11_fitsIntoBox_0 37 rfl) rfl ?_
      refine v_getR X RX11 TX11 19 12 11 (by decide) rfl gin11 13 1113 RX11 (Or.inl rfl) 1 2 rfl rfl rfl (by decide) lk_fRX11_71 (gD D_X11_fitsIntoBox_0 38 rfl) (fun o68 eo68 => ?_)
      replace hw := hw o68 eo68
      refine v_iload_n X 2 rfl (gD D_X11_fitsIntoBox_0 39 rfl) rfl ?_
      refine v_iconst X 3 (gD D_X11_fitsIntoBox_0 40 rfl) (by decide) ?_
      obtain ⟨a69, rfl, hw⟩ := hw
      refine v_callVi X (As := [.int x1, .int 3]) (rest := []) (nA := 2) 0 0 0 0 (fun ht => c_X1_at htr (ht.sub [0] rfl) hw) (Or.inl rfl) 0 (κ := 2) rfl (by decide) (rfl : gCl[1]? = some (RX1, TX1, 2)) lk_vRX11_176 (by decide +kernel) rfl rfl (by decide) (by decide) (by decide) rfl rfl (gD D_X11_fitsIntoBox_0 41 rfl) (fun x70 s71 hq _ _ => ?_)
      replace hw := hq
      clear hq
      refine v_aload X 0 rfl (gD D_X11_fitsIntoBox_0 42 rfl) ?_
      obtain ⟨a72, rfl, hw⟩ := hw
      refine v_getI X RX3 TX3 6 4 3 (by decide) rfl gin3 0 300 RX3 (Or.inl rfl) 1 rfl rfl (by decide) lk_fRX11_378 (gD D_X11_fitsIntoBox_0 43 rfl) ?_
      refine v_ishr X (gD D_X11_fitsIntoBox_0 44 rfl) ?_
      refine v_iconst X 1 (gD D_X11_fitsIntoBox_0 45 rfl) (by decide) ?_
      refine v_iand X (gD D_X11_fitsIntoBox_0 46 rfl) ?_
      refine v_iconst X 1 (gD D_X11_fitsIntoBox_0 47 rfl) (by decide) ?_
      refine v_icmp_ne X 93 (gD D_X11_fitsIntoBox_0 48 rfl) (by decide) (fun c73 => ?_) (fun c73 => ?_)
      · replace hw := hw.1 c73
        refine v_iconst X 0 (gD D_X11_fitsIntoBox_0 51 rfl) (by decide) ?_
        exact v_sub [2, 3, 4, 1] [1, 2, 3, 4, 5, 6, 7, 0] rfl rfl (t_X11_fitsIntoBox_94 X hr hin htr ih a0 x1 a2 x3 (some a65) x5 x6 (some a72) 0 s71 hw)
      · replace hw := hw.2 c73
        refine v_iconst X 1 (gD D_X11_fitsIntoBox_0 49 rfl) (by decide) ?_
        refine v_goto X 94 (gD D_X11_fitsIntoBox_0 50 rfl) (by decide) ?_
        exact v_sub [2, 3, 4, 1] [1, 2, 3, 4, 5, 6, 7, 0] rfl rfl (t_X11_fitsIntoBox_94 X hr hin htr ih a0 x1 a2 x3 (some a65) x5 x6 (some a72) 1 s71 hw)
set_option maxRecDepth 100000 in
set_option maxHeartbeats 4000000 in
theorem c_X11_fitsIntoBox {l : Launch} {G : GX} (htr : l.stackTraces = false) {σ : St} {a0 : Nat} {x1 : Int32} {a2 : Nat} {x3 : Int32} {Q : Int32 → St → Prop} (ht : tvOk σ [(some a0, 12), (some a2, 4)]) (hw : w_X11_fitsIntoBox a0 x1 a2 x3 σ Q) : MI l G 1 σ yX11_fitsIntoBox cX11_fitsIntoBox 9 (some .boolean) 1 0 0 [va_rf (some a0), .int x1, va_rf (some a2), .int x3] Q := by
  unfold w_X11_fitsIntoBox at hw
  refine m_start RX11 (by decide) htr ht (Nat.le_of_ble_eq_true rfl) rfl (lv := [(0, va_rf (some a0)), (1, .int x1), (2, va_rf (some a2)), (3, .int x3)]) (d := 1) (fun p e s m args below meth c X hr hin => ?_)
  refine v_aload_n X 0 rfl (gD D_X11_fitsIntoBox_0 0 rfl) rfl ?_
  refine v_getR X RX11 TX11 19 12 11 (by decide) rfl gin11 13 1113 RX11 (Or.inl rfl) 0 2 rfl rfl rfl (by decide) lk_fRX11_71 (gD D_X11_fitsIntoBox_0 1 rfl) (fun o51 eo51 => ?_)
  replace hw := hw o51 eo51
  refine v_iload_n X 1 rfl (gD D_X11_fitsIntoBox_0 2 rfl) rfl ?_
  refine v_iconst X 0 (gD D_X11_fitsIntoBox_0 3 rfl) (by decide) ?_
  obtain ⟨a52, rfl, hw⟩ := hw
  refine v_callVi X (As := [.int x1, .int 0]) (rest := []) (nA := 2) 0 0 0 0 (fun ht => c_X1_at htr (ht.sub [0] rfl) hw) (Or.inl rfl) 0 (κ := 2) rfl (by decide) (rfl : gCl[1]? = some (RX1, TX1, 2)) lk_vRX11_176 (by decide +kernel) rfl rfl (by decide) (by decide) (by decide) rfl rfl (gD D_X11_fitsIntoBox_0 4 rfl) (fun x53 s54 hq _ _ => ?_)
  replace hw := hq
  clear hq
  refine v_aload_n X 2 rfl (gD D_X11_fitsIntoBox_0 5 rfl) rfl ?_
  refine v_getI X RX3 TX3 6 4 3 (by decide) rfl gin3 2 302 RX3 (Or.inl rfl) 2 rfl rfl (by decide) lk_fRX11_127 (gD D_X11_fitsIntoBox_0 6 rfl) ?_
  refine v_iadd X (gD D_X11_fitsIntoBox_0 7 rfl) ?_
  refine v_bipush X 30 (gD D_X11_fitsIntoBox_0 8 rfl) (by decide) ?_
  refine v_icmp_gt X 38 (gD D_X11_fitsIntoBox_0 9 rfl) (by decide) (fun c55 => ?_) (fun c55 => ?_)
  · replace hw := hw.1 c55
    refine v_iconst X 0 (gD D_X11_fitsIntoBox_0 20 rfl) (by decide) ?_
    exact v_zret X hr (by decide) hw (gD D_X11_fitsIntoBox_0 21 rfl)
  · replace hw := hw.2 c55
    refine v_aload_n X 0 rfl (gD D_X11_fitsIntoBox_0 10 rfl) rfl ?_
    refine v_getR X RX11 TX11 19 12 11 (by decide) rfl gin11 13 1113 RX11 (Or.inl rfl) 1 2 rfl rfl rfl (by decide) lk_fRX11_71 (gD D_X11_fitsIntoBox_0 11 rfl) (fun o56 eo56 => ?_)
    replace hw := hw o56 eo56
    refine v_iload_n X 1 rfl (gD D_X11_fitsIntoBox_0 12 rfl) rfl ?_
    refine v_iconst X 1 (gD D_X11_fitsIntoBox_0 13 rfl) (by decide) ?_
    obtain ⟨a57, rfl, hw⟩ := hw
    refine v_callVi X (As := [.int x1, .int 1]) (rest := []) (nA := 2) 0 0 0 0 (fun ht => c_X1_at htr (ht.sub [0] rfl) hw) (Or.inl rfl) 0 (κ := 2) rfl (by decide) (rfl : gCl[1]? = some (RX1, TX1, 2)) lk_vRX11_176 (by decide +kernel) rfl rfl (by decide) (by decide) (by decide) rfl rfl (gD D_X11_fitsIntoBox_0 14 rfl) (fun x58 s59 hq _ _ => ?_)
    replace hw := hq
    clear hq
    refine v_aload_n X 2 rfl (gD D_X11_fitsIntoBox_0 15 rfl) rfl ?_
    refine v_getI X RX3 TX3 6 4 3 (by decide) rfl gin3 3 303 RX3 (Or.inl rfl) 3 rfl rfl (by decide) lk_fRX11_130 (gD D_X11_fitsIntoBox_0 16 rfl) ?_
    refine v_iadd X (gD D_X11_fitsIntoBox_0 17 rfl) ?_
    refine v_bipush X 50 (gD D_X11_fitsIntoBox_0 18 rfl) (by decide) ?_
    refine v_icmp_le X 40 (gD D_X11_fitsIntoBox_0 19 rfl) (by decide) (fun c60 => ?_) (fun c60 => ?_)
    · replace hw := hw.1 c60
      refine v_aload_n X 0 rfl (gD D_X11_fitsIntoBox_0 22 rfl) rfl ?_
      refine v_getR X RX11 TX11 19 12 11 (by decide) rfl gin11 1 1101 RX11 (Or.inl rfl) 2 25 rfl rfl rfl (by decide) lk_fRX11_17 (gD D_X11_fitsIntoBox_0 23 rfl) (fun o61 eo61 => ?_)
      replace hw := hw o61 eo61
      refine v_astore X [(4, va_rf o61), (0, va_rf (some a0)), (1, .int x1), (2, va_rf (some a2)), (3, .int x3)] (gD D_X11_fitsIntoBox_0 24 rfl) (by decide) rfl ?_
      refine v_aload X 0 rfl (gD D_X11_fitsIntoBox_0 25 rfl) ?_
      obtain ⟨a62, rfl, hw⟩ := hw
      refine v_alen X 0 rfl (by decide) (gD D_X11_fitsIntoBox_0 26 rfl) ?_
      refine v_topi (fun x63 ex63 => ?_)
      replace hw := hw x63 ex63
      refine v_istore X [(5, .int x63), (4, va_rf (some a62)), (0, va_rf (some a0)), (1, .int x1), (2, va_rf (some a2)), (3, .int x3)] (gD D_X11_fitsIntoBox_0 27 rfl) (by decide) rfl ?_
      refine v_iconst X 0 (gD D_X11_fitsIntoBox_0 28 rfl) (by decide) ?_
      refine v_istore X [(6, .int 0), (5, .int x63), (4, va_rf (some a62)), (0, va_rf (some a0)), (1, .int x1), (2, va_rf (some a2)), (3, .int x3)] (gD D_X11_fitsIntoBox_0 29 rfl) (by decide) rfl ?_
      obtain ⟨f80, hw⟩ := hw
      exact v_sub [3, 4, 0] [3, 4, 5, 6, 2, 1, 0] rfl rfl (t_X11_fitsIntoBox_54 X hr hin htr  f80 a0 x1 a2 x3 (some a62) x63 0 s59 hw)
    · replace hw := hw.2 c60
      refine v_iconst X 0 (gD D_X11_fitsIntoBox_0 20 rfl) (by decide) ?_
      exact v_zret X hr (by decide) hw (gD D_X11_fitsIntoBox_0 21 rfl)
set_option maxRecDepth 100000 in
set_option maxHeartbeats 4000000 in
theorem t_X11_freeRoom_31 {p : Program} {l : Launch} {e : Env} {s : State} {m : MethodId} {args : Array Value} {below : List Frame} {meth : Method} {c : Code} {G : GX} {σ0 : St} {mc ms : Nat} {Q : Int32 → St → Prop} (X : VC p l (rmD 1 mc ms) s m args meth c G 1 mc ms 7 RX11 cX11_freeRoom) (hr : meth.sig.returnType = (some .int)) (hin : meth.name = yX11_freeRoom.name) (htr : l.stackTraces = false) : ∀ (f : Nat) (a0 : Nat) (x1 : Int32) (x2 : Int32) (o3 : Option Nat) (x4 : Int32) (x5 : Int32) (σ : St), w_X11_freeRoom_31 Q  f a0 x1 x2 o3 x4 x5 σ → V p l e (rmD 1 mc ms) s m args below meth c (MQ below (va_Qi Q (gB G 1 σ0) (GA G)) args s mc ms (GA G)) G 1 σ0 mc ms 7 σ 0 0 [(some a0, 12), (o3, 25)] 31 [(0, va_rf (some a0)), (1, .int x1), (2, .int x2), (3, va_rf o3), (4, .int x4), (5, .int x5)] [] := by
  intro f
  induction f with
  | zero => intro a0 x1 x2 o3 x4 x5 σ hw; exact hw.elim
  | succ f ih =>
    intro a0 x1 x2 o3 x4 x5 σ hw
    unfold w_X11_freeRoom_31 at hw
    refine v_iload X 5 rfl (gD D_X11_freeRoom_0 19 rfl) ?_
    refine v_iload X 4 rfl (gD D_X11_freeRoom_0 20 rfl) ?_
    refine v_icmp_ge X 92 (gD D_X11_freeRoom_0 21 rfl) (by decide) (fun c63 => ?_) (fun c63 => ?_)
    · replace hw := hw.1 c63
      refine v_iload_n X 2 rfl (gD D_X11_freeRoom_0 49 rfl) rfl ?_
      exact v_iret X hr hw (gD D_X11_freeRoom_0 50 rfl)
    · replace hw := hw.2 c63
      refine v_aload_n X 3 rfl (gD D_X11_freeRoom_0 22 rfl) rfl ?_
      refine v_iload X 5 rfl (gD D_X11_freeRoom_0 23 rfl) ?_
      obtain ⟨a64, rfl, hw⟩ := hw
      obtain ⟨h65, hw⟩ := hw
      refine v_aald X 1 4 rfl (by decide) h65 (gD D_X11_freeRoom_0 24 rfl) (fun o66 eo66 => ?_)
      replace hw := hw o66 eo66
      refine v_astore X [(6, va_rf o66), (0, va_rf (some a0)), (1, .int x1), (2, .int x2), (3, va_rf (some a64)), (4, .int x4), (5, .int x5)] (gD D_X11_freeRoom_0 25 rfl) (by decide) rfl ?_
      refine v_iload_n X 3 rfl (gD D_X11_freeRoom_0 26 rfl) rfl ?_
      refine v_aload X 0 rfl (gD D_X11_freeRoom_0 27 rfl) ?_
      obtain ⟨a67, rfl, hw⟩ := hw
      refine v_getI X RX3 TX3 6 4 3 (by decide) rfl gin3 2 302 RX3 (Or.inl rfl) 0 rfl rfl (by decide) lk_fRX11_127 (gD D_X11_freeRoom_0 28 rfl) ?_
      refine v_aload_n X 1 rfl (gD D_X11_freeRoom_0 29 rfl) rfl ?_
      refine v_getR X RX11 TX11 19 12 11 (by decide) rfl gin11 9 1109 RX11 (Or.inl rfl) 1 1 rfl rfl rfl (by decide) lk_fRX11_52 (gD D_X11_freeRoom_0 30 rfl) (fun o68 eo68 => ?_)
      replace hw := hw o68 eo68
      obtain ⟨a69, rfl, hw⟩ := hw
      refine v_getR X RX0 TX0 8 1 0 (by decide) rfl gin0 1 1 RX0 (Or.inl rfl) 0 2 rfl rfl rfl (by decide) lk_fRX11_375 (gD D_X11_freeRoom_0 31 rfl) (fun o70 eo70 => ?_)
      replace hw := hw o70 eo70
      refine v_iload_n X 2 rfl (gD D_X11_freeRoom_0 32 rfl) rfl ?_
      refine v_aload X 0 rfl (gD D_X11_freeRoom_0 33 rfl) ?_
      refine v_getI X RX3 TX3 6 4 3 (by decide) rfl gin3 0 300 RX3 (Or.inl rfl) 2 rfl rfl (by decide) lk_fRX11_378 (gD D_X11_freeRoom_0 34 rfl) ?_
      obtain ⟨a71, rfl, hw⟩ := hw
      refine v_callVi X (As := [.int x1, .int (sI σ 300 a67)]) (rest := [.int (sI σ 302 a67), .int x2]) (nA := 2) 0 0 0 0 (fun ht => c_X1_at htr (ht.sub [0] rfl) hw) (Or.inl rfl) 0 (κ := 2) rfl (by decide) (rfl : gCl[1]? = some (RX1, TX1, 2)) lk_vRX11_176 (by decide +kernel) rfl rfl (by simp [rf_cat, ct_i]) (by decide) (by decide) rfl rfl (gD D_X11_freeRoom_0 35 rfl) (fun x72 s73 hq _ _ => ?_)
      replace hw := hq
      clear hq
      refine v_aload_n X 1 rfl (gD D_X11_freeRoom_0 36 rfl) rfl ?_
      refine v_getR X RX11 TX11 19 12 11 (by decide) rfl gin11 9 1109 RX11 (Or.inl rfl) 3 1 rfl rfl rfl (by decide) lk_fRX11_52 (gD D_X11_freeRoom_0 37 rfl) (fun o74 eo74 => ?_)
      replace hw := hw o74 eo74
      obtain ⟨a75, rfl, hw⟩ := hw
      refine v_getR X RX0 TX0 8 1 0 (by decide) rfl gin0 4 4 RX0 (Or.inl rfl) 0 2 rfl rfl rfl (by decide) lk_fRX11_379 (gD D_X11_freeRoom_0 38 rfl) (fun o76 eo76 => ?_)
      replace hw := hw o76 eo76
      refine v_iload_n X 2 rfl (gD D_X11_freeRoom_0 39 rfl) rfl ?_
      refine v_aload X 0 rfl (gD D_X11_freeRoom_0 40 rfl) ?_
      refine v_getI X RX3 TX3 6 4 3 (by decide) rfl gin3 0 300 RX3 (Or.inl rfl) 4 rfl rfl (by decide) lk_fRX11_378 (gD D_X11_freeRoom_0 41 rfl) ?_
      obtain ⟨a77, rfl, hw⟩ := hw
      refine v_callVi X (As := [.int x1, .int (sI s73 300 a67)]) (rest := [.int x72, .int (sI σ 302 a67), .int x2]) (nA := 2) 0 0 0 0 (fun ht => c_X1_at htr (ht.sub [0] rfl) hw) (Or.inl rfl) 0 (κ := 2) rfl (by decide) (rfl : gCl[1]? = some (RX1, TX1, 2)) lk_vRX11_176 (by decide +kernel) rfl rfl (by simp [rf_cat, ct_i]) (by decide) (by decide) rfl rfl (gD D_X11_freeRoom_0 42 rfl) (fun x78 s79 hq _ _ => ?_)
      replace hw := hq
      clear hq
      refine v_iadd X (gD D_X11_freeRoom_0 43 rfl) ?_
      refine v_imul X (gD D_X11_freeRoom_0 44 rfl) ?_
      refine v_isub X (gD D_X11_freeRoom_0 45 rfl) ?_
      refine v_topi (fun x80 ex80 => ?_)
      replace hw := hw x80 ex80
      refine v_istore_n X [(2, .int x80), (6, va_rf (some a67)), (0, va_rf (some a0)), (1, .int x1), (3, va_rf (some a64)), (4, .int x4), (5, .int x5)] (gD D_X11_freeRoom_0 46 rfl) rfl (by decide) rfl ?_
      refine v_iinc X (x5 + 1) 6 rfl [(5, .int (x5 + 1)), (2, .int x80), (6, va_rf (some a67)), (0, va_rf (some a0)), (1, .int x1), (3, va_rf (some a64)), (4, .int x4)] (gD D_X11_freeRoom_0 47 rfl) rfl (by decide) rfl ?_
      refine v_goto X 31 (gD D_X11_freeRoom_0 48 rfl) (by decide) ?_
      exact v_sub [5, 6] [3, 4, 1, 5, 6, 0] rfl rfl (ih a0 x1 x80 (some a64) x4 (x5 + 1) s79 hw)
set_option maxRecDepth 100000 in
set_option maxHeartbeats 4000000 in
theorem c_X11_freeRoom {l : Launch} {G : GX} (htr : l.stackTraces = false) {σ : St} {a0 : Nat} {x1 : Int32} {Q : Int32 → St → Prop} (ht : tvOk σ [(some a0, 12)]) (hw : w_X11_freeRoom a0 x1 σ Q) : MI l G 1 σ yX11_freeRoom cX11_freeRoom 7 (some .int) 1 0 0 [va_rf (some a0), .int x1] Q := by
  unfold w_X11_freeRoom at hw
  refine m_start RX11 (by decide) htr ht (Nat.le_of_ble_eq_true rfl) rfl (lv := [(0, va_rf (some a0)), (1, .int x1)]) (d := 1) (fun p e s m args below meth c X hr hin => ?_)
  refine v_iload_n X 1 rfl (gD D_X11_freeRoom_0 0 rfl) rfl ?_
  refine v_callSi X (As := [.int x1]) (rest := []) (nA := 1) 0 0 0 0 (fun ht => c_X11_isSlot htr (ht.sub [] rfl) hw) (Or.inl rfl) lk_sRX11_79 (by decide +kernel) rfl rfl (by decide) (by decide) (by decide) rfl rfl (gD D_X11_freeRoom_0 1 rfl) (fun x51 s52 hq _ _ => ?_)
  replace hw := hq
  clear hq
  refine v_if_ne X 9 (gD D_X11_freeRoom_0 2 rfl) (by decide) (fun c53 => ?_) (fun c53 => ?_)
  · replace hw := hw.1 c53
    refine v_aload_n X 0 rfl (gD D_X11_freeRoom_0 5 rfl) rfl ?_
    refine v_getR X RX11 TX11 19 12 11 (by decide) rfl gin11 0 1100 RX11 (Or.inl rfl) 0 24 rfl rfl rfl (by decide) lk_fRX11_11 (gD D_X11_freeRoom_0 6 rfl) (fun o54 eo54 => ?_)
    replace hw := hw o54 eo54
    refine v_iload_n X 1 rfl (gD D_X11_freeRoom_0 7 rfl) rfl ?_
    obtain ⟨a55, rfl, hw⟩ := hw
    obtain ⟨h56, hw⟩ := hw
    refine v_aald X 0 10 rfl (by decide) h56 (gD D_X11_freeRoom_0 8 rfl) (fun o57 eo57 => ?_)
    replace hw := hw o57 eo57
    obtain ⟨a58, rfl, hw⟩ := hw
    refine v_getI X RX9 TX9 5 10 9 (by decide) rfl gin9 1 901 RX9 (Or.inl rfl) 0 rfl rfl (by decide) lk_fRX11_107 (gD D_X11_freeRoom_0 9 rfl) ?_
    refine v_topi (fun x59 ex59 => ?_)
    replace hw := hw x59 ex59
    refine v_istore_n X [(2, .int x59), (0, va_rf (some a0)), (1, .int x1)] (gD D_X11_freeRoom_0 10 rfl) rfl (by decide) rfl ?_
    refine v_aload_n X 1 rfl (gD D_X11_freeRoom_0 11 rfl) rfl ?_
    refine v_getR X RX11 TX11 19 12 11 (by decide) rfl gin11 1 1101 RX11 (Or.inl rfl) 2 25 rfl rfl rfl (by decide) lk_fRX11_17 (gD D_X11_freeRoom_0 12 rfl) (fun o60 eo60 => ?_)
    replace hw := hw o60 eo60
    refine v_astore_n X [(3, va_rf o60), (2, .int x59), (0, va_rf (some a0)), (1, .int x1)] (gD D_X11_freeRoom_0 13 rfl) rfl (by decide) rfl ?_
    refine v_aload_n X 0 rfl (gD D_X11_freeRoom_0 14 rfl) rfl ?_
    obtain ⟨a61, rfl, hw⟩ := hw
    refine v_alen X 0 rfl (by decide) (gD D_X11_freeRoom_0 15 rfl) ?_
    refine v_topi (fun x62 ex62 => ?_)
    replace hw := hw x62 ex62
    refine v_istore X [(4, .int x62), (3, va_rf (some a61)), (2, .int x59), (0, va_rf (some a0)), (1, .int x1)] (gD D_X11_freeRoom_0 16 rfl) (by decide) rfl ?_
    refine v_iconst X 0 (gD D_X11_freeRoom_0 17 rfl) (by decide) ?_
    refine v_istore X [(5, .int 0), (4, .int x62), (3, va_rf (some a61)), (2, .int x59), (0, va_rf (some a0)), (1, .int x1)] (gD D_X11_freeRoom_0 18 rfl) (by decide) rfl ?_
    obtain ⟨f81, hw⟩ := hw
    exact v_sub [3, 0] [4, 5, 3, 2, 1, 0] rfl rfl (t_X11_freeRoom_31 X hr hin htr  f81 a0 x1 x59 (some a61) x62 0 s52 hw)
  · replace hw := hw.2 c53
    refine v_iconst X 0 (gD D_X11_freeRoom_0 3 rfl) (by decide) ?_
    exact v_iret X hr hw (gD D_X11_freeRoom_0 4 rfl)
set_option maxRecDepth 100000 in
set_option maxHeartbeats 4000000 in
theorem c_X11_isForWave {l : Launch} {G : GX} (htr : l.stackTraces = false) {σ : St} {a0 : Nat} {x1 : Int32} {Q : Int32 → St → Prop} (ht : tvOk σ [(some a0, 3)]) (hw : w_X11_isForWave a0 x1 σ Q) : MI l G 1 σ yX11_isForWave cX11_isForWave 2 (some .boolean) 1 0 0 [va_rf (some a0), .int x1] Q := by
  unfold w_X11_isForWave at hw
  refine m_start RX11 (by decide) htr ht (Nat.le_of_ble_eq_true rfl) rfl (lv := [(0, va_rf (some a0)), (1, .int x1)]) (d := 1) (fun p e s m args below meth c X hr hin => ?_)
  refine v_aload_n X 0 rfl (gD D_X11_isForWave_0 0 rfl) rfl ?_
  refine v_getR X RX2 TX2 6 3 2 (by decide) rfl gin2 0 200 RX2 (Or.inl rfl) 0 8 rfl rfl rfl (by decide) lk_fRX11_428 (gD D_X11_isForWave_0 1 rfl) (fun o51 eo51 => ?_)
  replace hw := hw o51 eo51
  refine v_ifnull X 30 (gD D_X11_isForWave_0 2 rfl) (by decide) (fun c52 => ?_) (fun a53 c52 => ?_)
  · replace hw := hw.1 c52
    subst c52
    refine v_iconst X 0 (gD D_X11_isForWave_0 16 rfl) (by decide) ?_
    exact v_zret X hr (by decide) hw (gD D_X11_isForWave_0 17 rfl)
  · replace hw := hw.2 a53 c52
    subst c52
    refine v_aload_n X 0 rfl (gD D_X11_isForWave_0 3 rfl) rfl ?_
    refine v_getR X RX2 TX2 6 3 2 (by decide) rfl gin2 5 205 RX2 (Or.inl rfl) 1 11 rfl rfl rfl (by decide) lk_fRX11_418 (gD D_X11_isForWave_0 4 rfl) (fun o54 eo54 => ?_)
    replace hw := hw o54 eo54
    refine v_ifnonnull X 30 (gD D_X11_isForWave_0 5 rfl) (by decide) (fun a56 c55 => ?_) (fun c55 => ?_)
    · replace hw := hw.2 a56 c55
      subst c55
      refine v_iconst X 0 (gD D_X11_isForWave_0 16 rfl) (by decide) ?_
      exact v_zret X hr (by decide) hw (gD D_X11_isForWave_0 17 rfl)
    · replace hw := hw.1 c55
      subst c55
      refine v_iload_n X 1 rfl (gD D_X11_isForWave_0 6 rfl) rfl ?_
      refine v_aload_n X 0 rfl (gD D_X11_isForWave_0 7 rfl) rfl ?_
      refine v_callVi X (As := []) (rest := [.int x1]) (nA := 0) 0 0 0 0 (fun ht => c_X2_turn htr (ht.sub [2] rfl) hw) (Or.inl rfl) 2 (κ := 3) rfl (by decide) (rfl : gCl[2]? = some (RX2, TX2, 6)) lk_vRX11_264 (by decide +kernel) rfl rfl (by simp [rf_cat, ct_i]) (by decide) (by decide) rfl rfl (gD D_X11_isForWave_0 8 rfl) (fun x57 s58 hq _ _ => ?_)
      replace hw := hq
      clear hq
      refine v_ishr X (gD D_X11_isForWave_0 9 rfl) ?_
      refine v_iconst X 1 (gD D_X11_isForWave_0 10 rfl) (by decide) ?_
      refine v_iand X (gD D_X11_isForWave_0 11 rfl) ?_
      refine v_iconst X 1 (gD D_X11_isForWave_0 12 rfl) (by decide) ?_
      refine v_icmp_ne X 30 (gD D_X11_isForWave_0 13 rfl) (by decide) (fun c59 => ?_) (fun c59 => ?_)
      · replace hw := hw.1 c59
        refine v_iconst X 0 (gD D_X11_isForWave_0 16 rfl) (by decide) ?_
        exact v_zret X hr (by decide) hw (gD D_X11_isForWave_0 17 rfl)
      · replace hw := hw.2 c59
        refine v_iconst X 1 (gD D_X11_isForWave_0 14 rfl) (by decide) ?_
        refine v_goto X 31 (gD D_X11_isForWave_0 15 rfl) (by decide) ?_
        exact v_zret X hr (by decide) hw (gD D_X11_isForWave_0 17 rfl)
set_option maxRecDepth 100000 in
set_option maxHeartbeats 4000000 in
theorem t_X11_isInRing_43 {p : Program} {l : Launch} {e : Env} {s : State} {m : MethodId} {args : Array Value} {below : List Frame} {meth : Method} {c : Code} {G : GX} {σ0 : St} {mc ms : Nat} {Q : Int32 → St → Prop} (X : VC p l (rmD 1 mc ms) s m args meth c G 1 mc ms 4 RX11 cX11_isInRing) (hr : meth.sig.returnType = (some .boolean)) (hin : meth.name = yX11_isInRing.name) (htr : l.stackTraces = false) : ∀ (o2 : Option Nat) (σ : St), w_X11_isInRing_43 Q  o2 σ → V p l e (rmD 1 mc ms) s m args below meth c (MQ below (va_Qi Q (gB G 1 σ0) (GA G)) args s mc ms (GA G)) G 1 σ0 mc ms 4 σ 0 0 [(o2, 9)] 43 [(2, va_rf o2)] [] := by
  intro o2 σ hw
  unfold w_X11_isInRing_43 at hw
  refine v_aload_n X 0 rfl (gD D_X11_isInRing_0 25 rfl) rfl ?_
  refine v_ifnull X 51 (gD D_X11_isInRing_0 26 rfl) (by decide) (fun c60 => ?_) (fun a61 c60 => ?_)
  · replace hw := hw.1 c60
    subst c60
    refine v_iconst X 0 (gD D_X11_isInRing_0 29 rfl) (by decide) ?_
    exact v_zret X hr (by decide) hw (gD D_X11_isInRing_0 30 rfl)
  · replace hw := hw.2 a61 c60
    subst c60
    refine v_iconst X 1 (gD D_X11_isInRing_0 27 rfl) (by decide) ?_
    refine v_goto X 52 (gD D_X11_isInRing_0 28 rfl) (by decide) ?_
    exact v_zret X hr (by decide) hw (gD D_X11_isInRing_0 30 rfl)
set_option maxRecDepth 100000 in
set_option maxHeartbeats 4000000 in
theorem t_X11_isInRing_33 {p : Program} {l : Launch} {e : Env} {s : State} {m : MethodId} {args : Array Value} {below : List Frame} {meth : Method} {c : Code} {G : GX} {σ0 : St} {mc ms : Nat} {Q : Int32 → St → Prop} (X : VC p l (rmD 1 mc ms) s m args meth c G 1 mc ms 4 RX11 cX11_isInRing) (hr : meth.sig.returnType = (some .boolean)) (hin : meth.name = yX11_isInRing.name) (htr : l.stackTraces = false) {K4 : Nat → Nat → Option Nat → Int32 → St → Prop} (hK4 : ∀ (a0 : Nat) (a1 : Nat) (o2 : Option Nat) (x3 : Int32) (σ : St), K4 a0 a1 o2 x3 σ → V p l e (rmD 1 mc ms) s m args below meth c (MQ below (va_Qi Q (gB G 1 σ0) (GA G)) args s mc ms (GA G)) G 1 σ0 mc ms 4 σ 0 0 [(some a0, 12), (some a1, 9), (o2, 9)] 4 [(0, va_rf (some a0)), (1, va_rf (some a1)), (2, va_rf o2), (3, .int x3)] []) : ∀ (a0 : Nat) (a1 : Nat) (x3 : Int32) (os0 : Option Nat) (σ : St), w_X11_isInRing_33 Q K4 a0 a1 x3 os0 σ → V p l e (rmD 1 mc ms) s m args below meth c (MQ below (va_Qi Q (gB G 1 σ0) (GA G)) args s mc ms (GA G)) G 1 σ0 mc ms 4 σ 0 0 [(some a0, 12), (some a1, 9), (os0, 9)] 33 [(0, va_rf (some a0)), (1, va_rf (some a1)), (3, .int x3)] [va_rf os0] := by
  intro a0 a1 x3 os0 σ hw
  unfold w_X11_isInRing_33 at hw
  refine v_astore_n X [(2, va_rf os0), (0, va_rf (some a0)), (1, va_rf (some a1)), (3, .int x3)] (gD D_X11_isInRing_0 19 rfl) rfl (by decide) rfl ?_
  refine v_aload_n X 0 rfl (gD D_X11_isInRing_0 20 rfl) rfl ?_
  refine v_ifnull X 43 (gD D_X11_isInRing_0 21 rfl) (by decide) (fun c58 => ?_) (fun a59 c58 => ?_)
  · replace hw := hw.1 c58
    subst c58
    refine v_nul 9 ?_
    exact v_sub [0] [0] rfl rfl (t_X11_isInRing_43 X hr hin htr  none σ hw)
  · replace hw := hw.2 a59 c58
    subst c58
    refine v_aload_n X 0 rfl (gD D_X11_isInRing_0 22 rfl) rfl ?_
    refine v_aload_n X 2 rfl (gD D_X11_isInRing_0 23 rfl) rfl ?_
    refine v_acmp_ne X 53 (gD D_X11_isInRing_0 24 rfl) (by decide) (fun c62 => ?_) (fun c62 => ?_)
    · replace hw := hw.1 c62
      refine v_iinc X (x3 + 1) 3 rfl [(3, .int (x3 + 1)), (2, va_rf (some a59)), (0, va_rf (some a0)), (1, va_rf (some a1))] (gD D_X11_isInRing_0 31 rfl) rfl (by decide) rfl ?_
      refine v_goto X 4 (gD D_X11_isInRing_0 32 rfl) (by decide) ?_
      exact v_sub [0, 1, 2] [2, 3, 1, 0] rfl rfl (hK4 a0 a1 (some a59) (x3 + 1) σ hw)
    · replace hw := hw.2 c62
      exact v_sub [2] [0] rfl rfl (t_X11_isInRing_43 X hr hin htr  (some a59) σ hw)
set_option maxRecDepth 100000 in
set_option maxHeartbeats 4000000 in
theorem t_X11_isInRing_4 {p : Program} {l : Launch} {e : Env} {s : State} {m : MethodId} {args : Array Value} {below : List Frame} {meth : Method} {c : Code} {G : GX} {σ0 : St} {mc ms : Nat} {Q : Int32 → St → Prop} (X : VC p l (rmD 1 mc ms) s m args meth c G 1 mc ms 4 RX11 cX11_isInRing) (hr : meth.sig.returnType = (some .boolean)) (hin : meth.name = yX11_isInRing.name) (htr : l.stackTraces = false) : ∀ (f : Nat) (a0 : Nat) (a1 : Nat) (o2 : Option Nat) (x3 : Int32) (σ : St), w_X11_isInRing_4 Q  f a0 a1 o2 x3 σ → V p l e (rmD 1 mc ms) s m args below meth c (MQ below (va_Qi Q (gB G 1 σ0) (GA G)) args s mc ms (GA G)) G 1 σ0 mc ms 4 σ 0 0 [(some a0, 12), (some a1, 9), (o2, 9)] 4 [(0, va_rf (some a0)), (1, va_rf (some a1)), (2, va_rf o2), (3, .int x3)] [] := by
  intro f
  induction f with
  | zero => intro a0 a1 o2 x3 σ hw; exact hw.elim
  | succ f ih =>
    intro a0 a1 o2 x3 σ hw
    unfold w_X11_isInRing_4 at hw
    refine v_iload_n X 3 rfl (gD D_X11_isInRing_0 4 rfl) rfl ?_
    refine v_aload_n X 0 rfl (gD D_X11_isInRing_0 5 rfl) rfl ?_
    refine v_getR X RX11 TX11 19 12 11 (by decide) rfl gin11 2 1102 RX11 (Or.inl rfl) 0 26 rfl rfl rfl (by decide) lk_fRX11_23 (gD D_X11_isInRing_0 6 rfl) (fun o51 eo51 => ?_)
    replace hw := hw o51 eo51
    obtain ⟨a52, rfl, hw⟩ := hw
    refine v_alen X 0 rfl (by decide) (gD D_X11_isInRing_0 7 rfl) ?_
    refine v_icmp_ge X 59 (gD D_X11_isInRing_0 8 rfl) (by decide) (fun c53 => ?_) (fun c53 => ?_)
    · replace hw := hw.1 c53
      refine v_iconst X 0 (gD D_X11_isInRing_0 33 rfl) (by decide) ?_
      exact v_zret X hr (by decide) hw (gD D_X11_isInRing_0 34 rfl)
    · replace hw := hw.2 c53
      refine v_aload_n X 2 rfl (gD D_X11_isInRing_0 9 rfl) rfl ?_
      obtain ⟨a54, rfl, hw⟩ := hw
      refine v_getI X RX8 TX8 4 9 8 (by decide) rfl gin8 3 803 RX8 (Or.inl rfl) 3 rfl rfl (by decide) lk_fRX11_481 (gD D_X11_isInRing_0 10 rfl) ?_
      refine v_iconst X (-1) (gD D_X11_isInRing_0 11 rfl) (by decide) ?_
      refine v_icmp_ne X 25 (gD D_X11_isInRing_0 12 rfl) (by decide) (fun c55 => ?_) (fun c55 => ?_)
      · replace hw := hw.1 c55
        refine v_aload_n X 0 rfl (gD D_X11_isInRing_0 15 rfl) rfl ?_
        refine v_aload_n X 2 rfl (gD D_X11_isInRing_0 16 rfl) rfl ?_
        refine v_getI X RX8 TX8 4 9 8 (by decide) rfl gin8 3 803 RX8 (Or.inl rfl) 3 rfl rfl (by decide) lk_fRX11_481 (gD D_X11_isInRing_0 17 rfl) ?_
        refine v_callVq X (As := [.int (sI σ 803 a54)]) (rest := []) (nA := 1) 0 0 0 0 (fun ht => c_X11_robotIn htr (ht.sub [1] rfl) hw) (Or.inl rfl) (by decide) 1 (κ := 12) rfl (by decide) (rfl : gCl[11]? = some (RX11, TX11, 19)) lk_vRX11_496 (by decide +kernel) rfl rfl (by decide) (by decide) (by decide) rfl rfl (gD D_X11_isInRing_0 18 rfl) (fun o56 s57 hq _ _ => ?_)
        replace hw := hq
        clear hq
        exact v_sub [2, 3, 0] [0, 1, 3] rfl rfl (t_X11_isInRing_33 X hr hin htr ih a0 a1 x3 o56 s57 hw)
      · replace hw := hw.2 c55
        refine v_null X (gD D_X11_isInRing_0 13 rfl) ?_
        refine v_goto X 33 (gD D_X11_isInRing_0 14 rfl) (by decide) ?_
        refine v_nul 9 ?_
        exact v_sub [2, 3, 0] [0, 1, 3] rfl rfl (t_X11_isInRing_33 X hr hin htr ih a0 a1 x3 none σ hw)
set_option maxRecDepth 100000 in
set_option maxHeartbeats 4000000 in
theorem c_X11_isInRing {l : Launch} {G : GX} (htr : l.stackTraces = false) {σ : St} {a0 : Nat} {a1 : Nat} {Q : Int32 → St → Prop} (ht : tvOk σ [(some a0, 12), (some a1, 9)]) (hw : w_X11_isInRing a0 a1 σ Q) : MI l G 1 σ yX11_isInRing cX11_isInRing 4 (some .boolean) 1 0 0 [va_rf (some a0), va_rf (some a1)] Q := by
  unfold w_X11_isInRing at hw
  refine m_start RX11 (by decide) htr ht (Nat.le_of_ble_eq_true rfl) rfl (lv := [(0, va_rf (some a0)), (1, va_rf (some a1))]) (d := 1) (fun p e s m args below meth c X hr hin => ?_)
  refine v_aload_n X 1 rfl (gD D_X11_isInRing_0 0 rfl) rfl ?_
  refine v_astore_n X [(2, va_rf (some a1)), (0, va_rf (some a0)), (1, va_rf (some a1))] (gD D_X11_isInRing_0 1 rfl) rfl (by decide) rfl ?_
  refine v_iconst X 0 (gD D_X11_isInRing_0 2 rfl) (by decide) ?_
  refine v_istore_n X [(3, .int 0), (2, va_rf (some a1)), (0, va_rf (some a0)), (1, va_rf (some a1))] (gD D_X11_isInRing_0 3 rfl) rfl (by decide) rfl ?_
  obtain ⟨f63, hw⟩ := hw
  exact v_sub [0, 1, 1] [2, 3, 1, 0] rfl rfl (t_X11_isInRing_4 X hr hin htr  f63 a0 a1 (some a1) 0 σ hw)
set_option maxRecDepth 100000 in
set_option maxHeartbeats 4000000 in
theorem c_X11_isLot {l : Launch} {G : GX} (htr : l.stackTraces = false) {σ : St} {a0 : Nat} {x1 : Int32} {Q : Int32 → St → Prop} (ht : tvOk σ [(some a0, 12)]) (hw : w_X11_isLot a0 x1 σ Q) : MI l G 1 σ yX11_isLot cX11_isLot 2 (some .boolean) 1 0 0 [va_rf (some a0), .int x1] Q := by
  unfold w_X11_isLot at hw
  refine m_start RX11 (by decide) htr ht (Nat.le_of_ble_eq_true rfl) rfl (lv := [(0, va_rf (some a0)), (1, .int x1)]) (d := 1) (fun p e s m args below meth c X hr hin => ?_)
  refine v_iload_n X 1 rfl (gD D_X11_isLot_0 0 rfl) rfl ?_
  refine v_if_lt X 19 (gD D_X11_isLot_0 1 rfl) (by decide) (fun c51 => ?_) (fun c51 => ?_)
  · replace hw := hw.1 c51
    refine v_iconst X 0 (gD D_X11_isLot_0 9 rfl) (by decide) ?_
    exact v_zret X hr (by decide) hw (gD D_X11_isLot_0 10 rfl)
  · replace hw := hw.2 c51
    refine v_iload_n X 1 rfl (gD D_X11_isLot_0 2 rfl) rfl ?_
    refine v_aload_n X 0 rfl (gD D_X11_isLot_0 3 rfl) rfl ?_
    refine v_getR X RX11 TX11 19 12 11 (by decide) rfl gin11 3 1103 RX11 (Or.inl rfl) 0 30 rfl rfl rfl (by decide) lk_fRX11_30 (gD D_X11_isLot_0 4 rfl) (fun o52 eo52 => ?_)
    replace hw := hw o52 eo52
    obtain ⟨a53, rfl, hw⟩ := hw
    refine v_callVi X (As := []) (rest := [.int x1]) (nA := 0) 0 0 0 0 (fun ht => c_Jx4a65c_size_8abf5 htr (ht.sub [0] rfl) hw) (Or.inl rfl) 0 (κ := 30) rfl (by decide) (rfl : gCl[13]? = some (RJx4a65c, TJx4a65c, 3)) lk_vRX11_145 (by decide +kernel) rfl rfl (by simp [rf_cat, ct_i]) (by decide) (by decide) rfl rfl (gD D_X11_isLot_0 5 rfl) (fun x54 s55 hq _ _ => ?_)
    replace hw := hq
    clear hq
    refine v_icmp_ge X 19 (gD D_X11_isLot_0 6 rfl) (by decide) (fun c56 => ?_) (fun c56 => ?_)
    · replace hw := hw.1 c56
      refine v_iconst X 0 (gD D_X11_isLot_0 9 rfl) (by decide) ?_
      exact v_zret X hr (by decide) hw (gD D_X11_isLot_0 10 rfl)
    · replace hw := hw.2 c56
      refine v_iconst X 1 (gD D_X11_isLot_0 7 rfl) (by decide) ?_
      refine v_goto X 20 (gD D_X11_isLot_0 8 rfl) (by decide) ?_
      exact v_zret X hr (by decide) hw (gD D_X11_isLot_0 10 rfl)
set_option maxRecDepth 100000 in
set_option maxHeartbeats 4000000 in
theorem c_X11_isNotice {l : Launch} {G : GX} (htr : l.stackTraces = false) {σ : St} {a0 : Nat} {x1 : Int32} {Q : Int32 → St → Prop} (ht : tvOk σ [(some a0, 12)]) (hw : w_X11_isNotice a0 x1 σ Q) : MI l G 1 σ yX11_isNotice cX11_isNotice 2 (some .boolean) 1 0 0 [va_rf (some a0), .int x1] Q := by
  unfold w_X11_isNotice at hw
  refine m_start RX11 (by decide) htr ht (Nat.le_of_ble_eq_true rfl) rfl (lv := [(0, va_rf (some a0)), (1, .int x1)]) (d := 1) (fun p e s m args below meth c X hr hin => ?_)
  refine v_iload_n X 1 rfl (gD D_X11_isNotice_0 0 rfl) rfl ?_
  refine v_if_lt X 19 (gD D_X11_isNotice_0 1 rfl) (by decide) (fun c51 => ?_) (fun c51 => ?_)
  · replace hw := hw.1 c51
    refine v_iconst X 0 (gD D_X11_isNotice_0 9 rfl) (by decide) ?_
    exact v_zret X hr (by decide) hw (gD D_X11_isNotice_0 10 rfl)
  · replace hw := hw.2 c51
    refine v_iload_n X 1 rfl (gD D_X11_isNotice_0 2 rfl) rfl ?_
    refine v_aload_n X 0 rfl (gD D_X11_isNotice_0 3 rfl) rfl ?_
    refine v_getR X RX11 TX11 19 12 11 (by decide) rfl gin11 5 1105 RX11 (Or.inl rfl) 0 30 rfl rfl rfl (by decide) lk_fRX11_37 (gD D_X11_isNotice_0 4 rfl) (fun o52 eo52 => ?_)
    replace hw := hw o52 eo52
    obtain ⟨a53, rfl, hw⟩ := hw
    refine v_callVi X (As := []) (rest := [.int x1]) (nA := 0) 0 0 0 0 (fun ht => c_Jx4a65c_size_8abf5 htr (ht.sub [0] rfl) hw) (Or.inl rfl) 0 (κ := 30) rfl (by decide) (rfl : gCl[13]? = some (RJx4a65c, TJx4a65c, 3)) lk_vRX11_145 (by decide +kernel) rfl rfl (by simp [rf_cat, ct_i]) (by decide) (by decide) rfl rfl (gD D_X11_isNotice_0 5 rfl) (fun x54 s55 hq _ _ => ?_)
    replace hw := hq
    clear hq
    refine v_icmp_ge X 19 (gD D_X11_isNotice_0 6 rfl) (by decide) (fun c56 => ?_) (fun c56 => ?_)
    · replace hw := hw.1 c56
      refine v_iconst X 0 (gD D_X11_isNotice_0 9 rfl) (by decide) ?_
      exact v_zret X hr (by decide) hw (gD D_X11_isNotice_0 10 rfl)
    · replace hw := hw.2 c56
      refine v_iconst X 1 (gD D_X11_isNotice_0 7 rfl) (by decide) ?_
      refine v_goto X 20 (gD D_X11_isNotice_0 8 rfl) (by decide) ?_
      exact v_zret X hr (by decide) hw (gD D_X11_isNotice_0 10 rfl)
set_option maxRecDepth 100000 in
set_option maxHeartbeats 4000000 in
theorem c_X11_isOrder {l : Launch} {G : GX} (htr : l.stackTraces = false) {σ : St} {a0 : Nat} {x1 : Int32} {Q : Int32 → St → Prop} (ht : tvOk σ [(some a0, 12)]) (hw : w_X11_isOrder a0 x1 σ Q) : MI l G 1 σ yX11_isOrder cX11_isOrder 2 (some .boolean) 1 0 0 [va_rf (some a0), .int x1] Q := by
  unfold w_X11_isOrder at hw
  refine m_start RX11 (by decide) htr ht (Nat.le_of_ble_eq_true rfl) rfl (lv := [(0, va_rf (some a0)), (1, .int x1)]) (d := 1) (fun p e s m args below meth c X hr hin => ?_)
  refine v_iload_n X 1 rfl (gD D_X11_isOrder_0 0 rfl) rfl ?_
  refine v_if_lt X 19 (gD D_X11_isOrder_0 1 rfl) (by decide) (fun c51 => ?_) (fun c51 => ?_)
  · replace hw := hw.1 c51
    refine v_iconst X 0 (gD D_X11_isOrder_0 9 rfl) (by decide) ?_
    exact v_zret X hr (by decide) hw (gD D_X11_isOrder_0 10 rfl)
  · replace hw := hw.2 c51
    refine v_iload_n X 1 rfl (gD D_X11_isOrder_0 2 rfl) rfl ?_
    refine v_aload_n X 0 rfl (gD D_X11_isOrder_0 3 rfl) rfl ?_
    refine v_getR X RX11 TX11 19 12 11 (by decide) rfl gin11 6 1106 RX11 (Or.inl rfl) 0 30 rfl rfl rfl (by decide) lk_fRX11_40 (gD D_X11_isOrder_0 4 rfl) (fun o52 eo52 => ?_)
    replace hw := hw o52 eo52
    obtain ⟨a53, rfl, hw⟩ := hw
    refine v_callVi X (As := []) (rest := [.int x1]) (nA := 0) 0 0 0 0 (fun ht => c_Jx4a65c_size_8abf5 htr (ht.sub [0] rfl) hw) (Or.inl rfl) 0 (κ := 30) rfl (by decide) (rfl : gCl[13]? = some (RJx4a65c, TJx4a65c, 3)) lk_vRX11_145 (by decide +kernel) rfl rfl (by simp [rf_cat, ct_i]) (by decide) (by decide) rfl rfl (gD D_X11_isOrder_0 5 rfl) (fun x54 s55 hq _ _ => ?_)
    replace hw := hq
    clear hq
    refine v_icmp_ge X 19 (gD D_X11_isOrder_0 6 rfl) (by decide) (fun c56 => ?_) (fun c56 => ?_)
    · replace hw := hw.1 c56
      refine v_iconst X 0 (gD D_X11_isOrder_0 9 rfl) (by decide) ?_
      exact v_zret X hr (by decide) hw (gD D_X11_isOrder_0 10 rfl)
    · replace hw := hw.2 c56
      refine v_iconst X 1 (gD D_X11_isOrder_0 7 rfl) (by decide) ?_
      refine v_goto X 20 (gD D_X11_isOrder_0 8 rfl) (by decide) ?_
      exact v_zret X hr (by decide) hw (gD D_X11_isOrder_0 10 rfl)
set_option maxRecDepth 100000 in
set_option maxHeartbeats 4000000 in
theorem c_X11_isTask {l : Launch} {G : GX} (htr : l.stackTraces = false) {σ : St} {a0 : Nat} {x1 : Int32} {Q : Int32 → St → Prop} (ht : tvOk σ [(some a0, 12)]) (hw : w_X11_isTask a0 x1 σ Q) : MI l G 1 σ yX11_isTask cX11_isTask 2 (some .boolean) 1 0 0 [va_rf (some a0), .int x1] Q := by
  unfold w_X11_isTask at hw
  refine m_start RX11 (by decide) htr ht (Nat.le_of_ble_eq_true rfl) rfl (lv := [(0, va_rf (some a0)), (1, .int x1)]) (d := 1) (fun p e s m args below meth c X hr hin => ?_)
  refine v_iload_n X 1 rfl (gD D_X11_isTask_0 0 rfl) rfl ?_
  refine v_if_lt X 19 (gD D_X11_isTask_0 1 rfl) (by decide) (fun c51 => ?_) (fun c51 => ?_)
  · replace hw := hw.1 c51
    refine v_iconst X 0 (gD D_X11_isTask_0 9 rfl) (by decide) ?_
    exact v_zret X hr (by decide) hw (gD D_X11_isTask_0 10 rfl)
  · replace hw := hw.2 c51
    refine v_iload_n X 1 rfl (gD D_X11_isTask_0 2 rfl) rfl ?_
    refine v_aload_n X 0 rfl (gD D_X11_isTask_0 3 rfl) rfl ?_
    refine v_getR X RX11 TX11 19 12 11 (by decide) rfl gin11 8 1108 RX11 (Or.inl rfl) 0 30 rfl rfl rfl (by decide) lk_fRX11_46 (gD D_X11_isTask_0 4 rfl) (fun o52 eo52 => ?_)
    replace hw := hw o52 eo52
    obtain ⟨a53, rfl, hw⟩ := hw
    refine v_callVi X (As := []) (rest := [.int x1]) (nA := 0) 0 0 0 0 (fun ht => c_Jx4a65c_size_8abf5 htr (ht.sub [0] rfl) hw) (Or.inl rfl) 0 (κ := 30) rfl (by decide) (rfl : gCl[13]? = some (RJx4a65c, TJx4a65c, 3)) lk_vRX11_145 (by decide +kernel) rfl rfl (by simp [rf_cat, ct_i]) (by decide) (by decide) rfl rfl (gD D_X11_isTask_0 5 rfl) (fun x54 s55 hq _ _ => ?_)
    replace hw := hq
    clear hq
    refine v_icmp_ge X 19 (gD D_X11_isTask_0 6 rfl) (by decide) (fun c56 => ?_) (fun c56 => ?_)
    · replace hw := hw.1 c56
      refine v_iconst X 0 (gD D_X11_isTask_0 9 rfl) (by decide) ?_
      exact v_zret X hr (by decide) hw (gD D_X11_isTask_0 10 rfl)
    · replace hw := hw.2 c56
      refine v_iconst X 1 (gD D_X11_isTask_0 7 rfl) (by decide) ?_
      refine v_goto X 20 (gD D_X11_isTask_0 8 rfl) (by decide) ?_
      exact v_zret X hr (by decide) hw (gD D_X11_isTask_0 10 rfl)
set_option maxRecDepth 100000 in
set_option maxHeartbeats 4000000 in
theorem t_X11_openBox_2 {p : Program} {l : Launch} {e : Env} {s : State} {m : MethodId} {args : Array Value} {below : List Frame} {meth : Method} {c : Code} {G : GX} {σ0 : St} {mc ms : Nat} {Q : St → Prop} (X : VC p l (rmD 1 mc ms) s m args meth c G 1 mc ms 2 RX11 cX11_openBox) (hr : meth.sig.returnType = none) (hin : meth.name = yX11_openBox.name) (htr : l.stackTraces = false) : ∀ (f : Nat) (a0 : Nat) (x1 : Int32) (σ : St), w_X11_openBox_2 Q  f a0 x1 σ → V p l e (rmD 1 mc ms) s m args below meth c (MQ below (va_Qv Q (gB G 1 σ0) (GA G)) args s mc ms (GA G)) G 1 σ0 mc ms 2 σ 0 0 [(some a0, 12)] 2 [(0, va_rf (some a0)), (1, .int x1)] [] := by
  intro f
  induction f with
  | zero => intro a0 x1 σ hw; exact hw.elim
  | succ f ih =>
    intro a0 x1 σ hw
    unfold w_X11_openBox_2 at hw
    refine v_iload_n X 1 rfl (gD D_X11_openBox_0 2 rfl) rfl ?_
    refine v_iconst X 4 (gD D_X11_openBox_0 3 rfl) (by decide) ?_
    refine v_icmp_ge X 26 (gD D_X11_openBox_0 4 rfl) (by decide) (fun c51 => ?_) (fun c51 => ?_)
    · replace hw := hw.1 c51
      refine v_aload_n X 0 rfl (gD D_X11_openBox_0 14 rfl) rfl ?_
      refine v_dup X (gD D_X11_openBox_0 15 rfl) (rf_cat _) ?_
      refine v_getI X RX11 TX11 19 12 11 (by decide) rfl gin11 14 1114 RX11 (Or.inl rfl) 0 rfl rfl (by decide) lk_fRX11_352 (gD D_X11_openBox_0 16 rfl) ?_
      refine v_iconst X 1 (gD D_X11_openBox_0 17 rfl) (by decide) ?_
      refine v_iadd X (gD D_X11_openBox_0 18 rfl) ?_
      refine v_putI X RX11 TX11 19 12 11 (by decide) rfl gin11 14 1114 tyX11 tyX11_ok nmX11 RX11 (Or.inl rfl) 0 rfl .int (int_fit _) rfl (by decide) (Or.inl rfl) lk_fRX11_352 rfl rfl (gD D_X11_openBox_0 19 rfl) (fun s52 es52 => ?_)
      replace hw := hw s52 es52
      exact v_vret X hr hw (gD D_X11_openBox_0 20 rfl)
    · replace hw := hw.2 c51
      refine v_aload_n X 0 rfl (gD D_X11_openBox_0 5 rfl) rfl ?_
      refine v_getR X RX11 TX11 19 12 11 (by decide) rfl gin11 13 1113 RX11 (Or.inl rfl) 0 2 rfl rfl rfl (by decide) lk_fRX11_71 (gD D_X11_openBox_0 6 rfl) (fun o53 eo53 => ?_)
      replace hw := hw o53 eo53
      refine v_aload_n X 0 rfl (gD D_X11_openBox_0 7 rfl) rfl ?_
      refine v_getI X RX11 TX11 19 12 11 (by decide) rfl gin11 14 1114 RX11 (Or.inl rfl) 1 rfl rfl (by decide) lk_fRX11_352 (gD D_X11_openBox_0 8 rfl) ?_
      refine v_iload_n X 1 rfl (gD D_X11_openBox_0 9 rfl) rfl ?_
      refine v_iconst X 0 (gD D_X11_openBox_0 10 rfl) (by decide) ?_
      obtain ⟨a54, rfl, hw⟩ := hw
      refine v_callVv X (As := [.int (sI σ 1114 a0), .int x1, .int 0]) (rest := []) (nA := 3) 0 0 0 0 (fun ht => c_X1_put htr (ht.sub [0] rfl) hw) (Or.inl rfl) 0 (κ := 2) rfl (by decide) (rfl : gCl[1]? = some (RX1, TX1, 2)) lk_vRX11_531 (by decide +kernel) rfl rfl (by decide) (by decide) (by decide) rfl rfl (gD D_X11_openBox_0 11 rfl) (fun s56 hq _ _ => ?_)
      replace hw := hq
      clear hq
      refine v_iinc X (x1 + 1) 1 rfl [(1, .int (x1 + 1)), (0, va_rf (some a0))] (gD D_X11_openBox_0 12 rfl) rfl (by decide) rfl ?_
      refine v_goto X 2 (gD D_X11_openBox_0 13 rfl) (by decide) ?_
      exact v_sub [1] [1, 0] rfl rfl (ih a0 (x1 + 1) s56 hw)
set_option maxRecDepth 100000 in
set_option maxHeartbeats 4000000 in
theorem c_X11_openBox {l : Launch} {G : GX} (htr : l.stackTraces = false) {σ : St} {a0 : Nat} {Q : St → Prop} (ht : tvOk σ [(some a0, 12)]) (hw : w_X11_openBox a0 σ Q) : MV l G 1 σ yX11_openBox cX11_openBox 2 1 0 0 [va_rf (some a0)] Q := by
  unfold w_X11_openBox at hw
  refine m_start RX11 (by decide) htr ht (Nat.le_of_ble_eq_true rfl) rfl (lv := [(0, va_rf (some a0))]) (d := 1) (fun p e s m args below meth c X hr hin => ?_)
  refine v_iconst X 0 (gD D_X11_openBox_0 0 rfl) (by decide) ?_
  refine v_istore_n X [(1, .int 0), (0, va_rf (some a0))] (gD D_X11_openBox_0 1 rfl) rfl (by decide) rfl ?_
  obtain ⟨f57, hw⟩ := hw
  exact v_sub [0] [1, 0] rfl rfl (t_X11_openBox_2 X hr hin htr  f57 a0 0 σ hw)
set_option maxRecDepth 100000 in
set_option maxHeartbeats 4000000 in
theorem c_X11_piecesToPack {l : Launch} {G : GX} (htr : l.stackTraces = false) {σ : St} {a0 : Nat} {a1 : Nat} {a2 : Nat} {Q : Int32 → St → Prop} (ht : tvOk σ [(some a0, 12), (some a1, 8), (some a2, 4)]) (hw : w_X11_piecesToPack a0 a1 a2 σ Q) : MI l G 1 σ yX11_piecesToPack cX11_piecesToPack 3 (some .int) 1 0 0 [va_rf (some a0), va_rf (some a1), va_rf (some a2)] Q := by
  unfold w_X11_piecesToPack at hw
  refine m_start RX11 (by decide) htr ht (Nat.le_of_ble_eq_true rfl) rfl (lv := [(0, va_rf (some a0)), (1, va_rf (some a1)), (2, va_rf (some a2))]) (d := 1) (fun p e s m args below meth c X hr hin => ?_)
  refine v_aload_n X 1 rfl (gD D_X11_piecesToPack_0 0 rfl) rfl ?_
  refine v_getI X RX7 TX7 7 8 7 (by decide) rfl gin7 5 705 RX7 (Or.inl rfl) 1 rfl rfl (by decide) lk_fRX11_246 (gD D_X11_piecesToPack_0 1 rfl) ?_
  refine v_if_eq X 23 (gD D_X11_piecesToPack_0 2 rfl) (by decide) (fun c51 => ?_) (fun c51 => ?_)
  · replace hw := hw.1 c51
    refine v_aload_n X 0 rfl (gD D_X11_piecesToPack_0 11 rfl) rfl ?_
    refine v_getR X RX11 TX11 19 12 11 (by decide) rfl gin11 9 1109 RX11 (Or.inl rfl) 0 1 rfl rfl rfl (by decide) lk_fRX11_52 (gD D_X11_piecesToPack_0 12 rfl) (fun o52 eo52 => ?_)
    replace hw := hw o52 eo52
    obtain ⟨a53, rfl, hw⟩ := hw
    refine v_getR X RX0 TX0 8 1 0 (by decide) rfl gin0 1 1 RX0 (Or.inl rfl) 0 2 rfl rfl rfl (by decide) lk_fRX11_375 (gD D_X11_piecesToPack_0 13 rfl) (fun o54 eo54 => ?_)
    replace hw := hw o54 eo54
    refine v_bipush X 20 (gD D_X11_piecesToPack_0 14 rfl) (by decide) ?_
    refine v_aload_n X 1 rfl (gD D_X11_piecesToPack_0 15 rfl) rfl ?_
    refine v_getI X RX7 TX7 7 8 7 (by decide) rfl gin7 0 700 RX7 (Or.inl rfl) 3 rfl rfl (by decide) lk_fRX11_534 (gD D_X11_piecesToPack_0 16 rfl) ?_
    refine v_iadd X (gD D_X11_piecesToPack_0 17 rfl) ?_
    refine v_aload_n X 2 rfl (gD D_X11_piecesToPack_0 18 rfl) rfl ?_
    refine v_getI X RX3 TX3 6 4 3 (by decide) rfl gin3 0 300 RX3 (Or.inl rfl) 4 rfl rfl (by decide) lk_fRX11_378 (gD D_X11_piecesToPack_0 19 rfl) ?_
    obtain ⟨a55, rfl, hw⟩ := hw
    refine v_callVi X (As := [.int (20 + (sI σ 700 a1)), .int (sI σ 300 a2)]) (rest := []) (nA := 2) 0 0 0 0 (fun ht => c_X1_at htr (ht.sub [0] rfl) hw) (Or.inl rfl) 0 (κ := 2) rfl (by decide) (rfl : gCl[1]? = some (RX1, TX1, 2)) lk_vRX11_176 (by decide +kernel) rfl rfl (by decide) (by decide) (by decide) rfl rfl (gD D_X11_piecesToPack_0 20 rfl) (fun x56 s57 hq _ _ => ?_)
    replace hw := hq
    clear hq
    exact v_iret X hr hw (gD D_X11_piecesToPack_0 21 rfl)
  · replace hw := hw.2 c51
    refine v_aload_n X 0 rfl (gD D_X11_piecesToPack_0 3 rfl) rfl ?_
    refine v_getR X RX11 TX11 19 12 11 (by decide) rfl gin11 12 1112 RX11 (Or.inl rfl) 0 2 rfl rfl rfl (by decide) lk_fRX11_68 (gD D_X11_piecesToPack_0 4 rfl) (fun o58 eo58 => ?_)
    replace hw := hw o58 eo58
    refine v_aload_n X 1 rfl (gD D_X11_piecesToPack_0 5 rfl) rfl ?_
    refine v_getI X RX7 TX7 7 8 7 (by decide) rfl gin7 0 700 RX7 (Or.inl rfl) 2 rfl rfl (by decide) lk_fRX11_534 (gD D_X11_piecesToPack_0 6 rfl) ?_
    refine v_aload_n X 2 rfl (gD D_X11_piecesToPack_0 7 rfl) rfl ?_
    refine v_getI X RX3 TX3 6 4 3 (by decide) rfl gin3 0 300 RX3 (Or.inl rfl) 3 rfl rfl (by decide) lk_fRX11_378 (gD D_X11_piecesToPack_0 8 rfl) ?_
    obtain ⟨a59, rfl, hw⟩ := hw
    refine v_callVi X (As := [.int (sI σ 700 a1), .int (sI σ 300 a2)]) (rest := []) (nA := 2) 0 0 0 0 (fun ht => c_X1_at htr (ht.sub [0] rfl) hw) (Or.inl rfl) 0 (κ := 2) rfl (by decide) (rfl : gCl[1]? = some (RX1, TX1, 2)) lk_vRX11_176 (by decide +kernel) rfl rfl (by decide) (by decide) (by decide) rfl rfl (gD D_X11_piecesToPack_0 9 rfl) (fun x60 s61 hq _ _ => ?_)
    replace hw := hq
    clear hq
    exact v_iret X hr hw (gD D_X11_piecesToPack_0 10 rfl)
set_option maxRecDepth 100000 in
set_option maxHeartbeats 4000000 in
theorem c_X11_putIntoBox {l : Launch} {G : GX} (htr : l.stackTraces = false) {σ : St} {a0 : Nat} {x1 : Int32} {a2 : Nat} {Q : St → Prop} (ht : tvOk σ [(some a0, 12), (some a2, 4)]) (hw : w_X11_putIntoBox a0 x1 a2 σ Q) : MV l G 1 σ yX11_putIntoBox cX11_putIntoBox 3 1 0 0 [va_rf (some a0), .int x1, va_rf (some a2)] Q := by
  unfold w_X11_putIntoBox at hw
  refine m_start RX11 (by decide) htr ht (Nat.le_of_ble_eq_true rfl) rfl (lv := [(0, va_rf (some a0)), (1, .int x1), (2, va_rf (some a2))]) (d := 1) (fun p e s m args below meth c X hr hin => ?_)
  refine v_aload_n X 0 rfl (gD D_X11_putIntoBox_0 0 rfl) rfl ?_
  refine v_getR X RX11 TX11 19 12 11 (by decide) rfl gin11 13 1113 RX11 (Or.inl rfl) 0 2 rfl rfl rfl (by decide) lk_fRX11_71 (gD D_X11_putIntoBox_0 1 rfl) (fun o51 eo51 => ?_)
  replace hw := hw o51 eo51
  refine v_iload_n X 1 rfl (gD D_X11_putIntoBox_0 2 rfl) rfl ?_
  refine v_iconst X 0 (gD D_X11_putIntoBox_0 3 rfl) (by decide) ?_
  refine v_aload_n X 2 rfl (gD D_X11_putIntoBox_0 4 rfl) rfl ?_
  refine v_getI X RX3 TX3 6 4 3 (by decide) rfl gin3 2 302 RX3 (Or.inl rfl) 2 rfl rfl (by decide) lk_fRX11_127 (gD D_X11_putIntoBox_0 5 rfl) ?_
  obtain ⟨a52, rfl, hw⟩ := hw
  refine v_callVv X (As := [.int x1, .int 0, .int (sI σ 302 a2)]) (rest := []) (nA := 3) 0 0 0 0 (fun ht => c_X1_add htr (ht.sub [0] rfl) hw) (Or.inl rfl) 0 (κ := 2) rfl (by decide) (rfl : gCl[1]? = some (RX1, TX1, 2)) lk_vRX11_202 (by decide +kernel) rfl rfl (by decide) (by decide) (by decide) rfl rfl (gD D_X11_putIntoBox_0 6 rfl) (fun s54 hq _ _ => ?_)
  replace hw := hq
  clear hq
  refine v_aload_n X 0 rfl (gD D_X11_putIntoBox_0 7 rfl) rfl ?_
  refine v_getR X RX11 TX11 19 12 11 (by decide) rfl gin11 13 1113 RX11 (Or.inl rfl) 1 2 rfl rfl rfl (by decide) lk_fRX11_71 (gD D_X11_putIntoBox_0 8 rfl) (fun o55 eo55 => ?_)
  replace hw := hw o55 eo55
  refine v_iload_n X 1 rfl (gD D_X11_putIntoBox_0 9 rfl) rfl ?_
  refine v_iconst X 1 (gD D_X11_putIntoBox_0 10 rfl) (by decide) ?_
  refine v_aload_n X 2 rfl (gD D_X11_putIntoBox_0 11 rfl) rfl ?_
  refine v_getI X RX3 TX3 6 4 3 (by decide) rfl gin3 3 303 RX3 (Or.inl rfl) 3 rfl rfl (by decide) lk_fRX11_130 (gD D_X11_putIntoBox_0 12 rfl) ?_
  obtain ⟨a56, rfl, hw⟩ := hw
  refine v_callVv X (As := [.int x1, .int 1, .int (sI s54 303 a2)]) (rest := []) (nA := 3) 0 0 0 0 (fun ht => c_X1_add htr (ht.sub [0] rfl) hw) (Or.inl rfl) 0 (κ := 2) rfl (by decide) (rfl : gCl[1]? = some (RX1, TX1, 2)) lk_vRX11_202 (by decide +kernel) rfl rfl (by decide) (by decide) (by decide) rfl rfl (gD D_X11_putIntoBox_0 13 rfl) (fun s58 hq _ _ => ?_)
  replace hw := hq
  clear hq
  refine v_aload_n X 0 rfl (gD D_X11_putIntoBox_0 14 rfl) rfl ?_
  refine v_getR X RX11 TX11 19 12 11 (by decide) rfl gin11 13 1113 RX11 (Or.inl rfl) 2 2 rfl rfl rfl (by decide) lk_fRX11_71 (gD D_X11_putIntoBox_0 15 rfl) (fun o59 eo59 => ?_)
  replace hw := hw o59 eo59
  refine v_iload_n X 1 rfl (gD D_X11_putIntoBox_0 16 rfl) rfl ?_
  refine v_iconst X 2 (gD D_X11_putIntoBox_0 17 rfl) (by decide) ?_
  refine v_iconst X 1 (gD D_X11_putIntoBox_0 18 rfl) (by decide) ?_
  obtain ⟨a60, rfl, hw⟩ := hw
  refine v_callVv X (As := [.int x1, .int 2, .int 1]) (rest := []) (nA := 3) 0 0 0 0 (fun ht => c_X1_add htr (ht.sub [0] rfl) hw) (Or.inl rfl) 0 (κ := 2) rfl (by decide) (rfl : gCl[1]? = some (RX1, TX1, 2)) lk_vRX11_202 (by decide +kernel) rfl rfl (by decide) (by decide) (by decide) rfl rfl (gD D_X11_putIntoBox_0 19 rfl) (fun s62 hq _ _ => ?_)
  replace hw := hq
  clear hq
  refine v_aload_n X 0 rfl (gD D_X11_putIntoBox_0 20 rfl) rfl ?_
  refine v_getR X RX11 TX11 19 12 11 (by decide) rfl gin11 13 1113 RX11 (Or.inl rfl) 3 2 rfl rfl rfl (by decide) lk_fRX11_71 (gD D_X11_putIntoBox_0 21 rfl) (fun o63 eo63 => ?_)
  replace hw := hw o63 eo63
  refine v_iload_n X 1 rfl (gD D_X11_putIntoBox_0 22 rfl) rfl ?_
  refine v_iconst X 3 (gD D_X11_putIntoBox_0 23 rfl) (by decide) ?_
  refine v_aload_n X 0 rfl (gD D_X11_putIntoBox_0 24 rfl) rfl ?_
  refine v_getR X RX11 TX11 19 12 11 (by decide) rfl gin11 13 1113 RX11 (Or.inl rfl) 4 2 rfl rfl rfl (by decide) lk_fRX11_71 (gD D_X11_putIntoBox_0 25 rfl) (fun o64 eo64 => ?_)
  replace hw := hw o64 eo64
  refine v_iload_n X 1 rfl (gD D_X11_putIntoBox_0 26 rfl) rfl ?_
  refine v_iconst X 3 (gD D_X11_putIntoBox_0 27 rfl) (by decide) ?_
  obtain ⟨a65, rfl, hw⟩ := hw
  refine v_callVi X (As := [.int x1, .int 3]) (rest := [.int 3, .int x1, va_rf o63]) (nA := 2) 0 0 0 0 (fun ht => c_X1_at htr (ht.sub [0] rfl) hw) (Or.inl rfl) 0 (κ := 2) rfl (by decide) (rfl : gCl[1]? = some (RX1, TX1, 2)) lk_vRX11_176 (by decide +kernel) rfl rfl (by simp [rf_cat, ct_i]) (by decide) (by decide) rfl rfl (gD D_X11_putIntoBox_0 28 rfl) (fun x66 s67 hq _ _ => ?_)
  replace hw := hq
  clear hq
  refine v_iconst X 1 (gD D_X11_putIntoBox_0 29 rfl) (by decide) ?_
  refine v_aload_n X 2 rfl (gD D_X11_putIntoBox_0 30 rfl) rfl ?_
  refine v_getI X RX3 TX3 6 4 3 (by decide) rfl gin3 0 300 RX3 (Or.inl rfl) 6 rfl rfl (by decide) lk_fRX11_378 (gD D_X11_putIntoBox_0 31 rfl) ?_
  refine v_ishl X (gD D_X11_putIntoBox_0 32 rfl) ?_
  refine v_ior X (gD D_X11_putIntoBox_0 33 rfl) ?_
  obtain ⟨a68, rfl, hw⟩ := hw
  refine v_callVv X (As := [.int x1, .int 3, .int (x66 ||| (1 <<< ((sI s67 300 a2) &&& 31)))]) (rest := []) (nA := 3) 0 0 0 0 (fun ht => c_X1_put htr (ht.sub [1] rfl) hw) (Or.inl rfl) 1 (κ := 2) rfl (by decide) (rfl : gCl[1]? = some (RX1, TX1, 2)) lk_vRX11_531 (by decide +kernel) rfl rfl (by decide) (by decide) (by decide) rfl rfl (gD D_X11_putIntoBox_0 34 rfl) (fun s70 hq _ _ => ?_)
  replace hw := hq
  clear hq
  exact v_vret X hr hw (gD D_X11_putIntoBox_0 35 rfl)
set_option maxRecDepth 100000 in
set_option maxHeartbeats 4000000 in
theorem t_X11_release_53 {p : Program} {l : Launch} {e : Env} {s : State} {m : MethodId} {args : Array Value} {below : List Frame} {meth : Method} {c : Code} {G : GX} {σ0 : St} {mc ms : Nat} {Q : St → Prop} (X : VC p l (rmD 1 mc ms) s m args meth c G 1 mc ms 3 RX11 cX11_release) (hr : meth.sig.returnType = none) (hin : meth.name = yX11_release.name) (htr : l.stackTraces = false) : ∀ (a0 : Nat) (a1 : Nat) (x2 : Int32) (σ : St), w_X11_release_53 Q  a0 a1 x2 σ → V p l e (rmD 1 mc ms) s m args below meth c (MQ below (va_Qv Q (gB G 1 σ0) (GA G)) args s mc ms (GA G)) G 1 σ0 mc ms 3 σ 0 0 [(some a0, 12), (some a1, 3)] 53 [(0, va_rf (some a0)), (1, va_rf (some a1)), (2, .int x2)] [] := by
  intro a0 a1 x2 σ hw
  unfold w_X11_release_53 at hw
  refine v_aload_n X 1 rfl (gD D_X11_release_0 27 rfl) rfl ?_
  refine v_getR X RX2 TX2 6 3 2 (by decide) rfl gin2 5 205 RX2 (Or.inl rfl) 1 11 rfl rfl rfl (by decide) lk_fRX11_418 (gD D_X11_release_0 28 rfl) (fun o63 eo63 => ?_)
  replace hw := hw o63 eo63
  refine v_ifnull X 100 (gD D_X11_release_0 29 rfl) (by decide) (fun c64 => ?_) (fun a65 c64 => ?_)
  · replace hw := hw.1 c64
    subst c64
    exact v_vret X hr hw (gD D_X11_release_0 48 rfl)
  · replace hw := hw.2 a65 c64
    subst c64
    refine v_aload_n X 1 rfl (gD D_X11_release_0 30 rfl) rfl ?_
    refine v_getR X RX2 TX2 6 3 2 (by decide) rfl gin2 5 205 RX2 (Or.inl rfl) 2 11 rfl rfl rfl (by decide) lk_fRX11_418 (gD D_X11_release_0 31 rfl) (fun o66 eo66 => ?_)
    replace hw := hw o66 eo66
    obtain ⟨a67, rfl, hw⟩ := hw
    refine v_getI X RX10 TX10 7 11 10 (by decide) rfl gin10 1 1001 RX10 (Or.inl rfl) 0 rfl rfl (by decide) lk_fRX11_319 (gD D_X11_release_0 32 rfl) ?_
    refine v_iconst X 2 (gD D_X11_release_0 33 rfl) (by decide) ?_
    refine v_icmp_eq X 100 (gD D_X11_release_0 34 rfl) (by decide) (fun c68 => ?_) (fun c68 => ?_)
    · replace hw := hw.1 c68
      exact v_vret X hr hw (gD D_X11_release_0 48 rfl)
    · replace hw := hw.2 c68
      refine v_aload_n X 0 rfl (gD D_X11_release_0 35 rfl) rfl ?_
      refine v_getR X RX11 TX11 19 12 11 (by decide) rfl gin11 9 1109 RX11 (Or.inl rfl) 2 1 rfl rfl rfl (by decide) lk_fRX11_52 (gD D_X11_release_0 36 rfl) (fun o69 eo69 => ?_)
      replace hw := hw o69 eo69
      obtain ⟨a70, rfl, hw⟩ := hw
      refine v_getR X RX0 TX0 8 1 0 (by decide) rfl gin0 4 4 RX0 (Or.inl rfl) 0 2 rfl rfl rfl (by decide) lk_fRX11_379 (gD D_X11_release_0 37 rfl) (fun o71 eo71 => ?_)
      replace hw := hw o71 eo71
      refine v_aload_n X 1 rfl (gD D_X11_release_0 38 rfl) rfl ?_
      refine v_getR X RX2 TX2 6 3 2 (by decide) rfl gin2 5 205 RX2 (Or.inl rfl) 5 11 rfl rfl rfl (by decide) lk_fRX11_418 (gD D_X11_release_0 39 rfl) (fun o72 eo72 => ?_)
      replace hw := hw o72 eo72
      obtain ⟨a73, rfl, hw⟩ := hw
      refine v_getI X RX10 TX10 7 11 10 (by decide) rfl gin10 3 1003 RX10 (Or.inl rfl) 0 rfl rfl (by decide) lk_fRX11_422 (gD D_X11_release_0 40 rfl) ?_
      refine v_aload_n X 1 rfl (gD D_X11_release_0 41 rfl) rfl ?_
      refine v_getR X RX2 TX2 6 3 2 (by decide) rfl gin2 3 203 RX2 (Or.inl rfl) 6 6 rfl rfl rfl (by decide) lk_fRX11_410 (gD D_X11_release_0 42 rfl) (fun o74 eo74 => ?_)
      replace hw := hw o74 eo74
      obtain ⟨a75, rfl, hw⟩ := hw
      refine v_getR X RX5 TX5 4 6 5 (by decide) rfl gin5 1 501 RX5 (Or.inl rfl) 0 4 rfl rfl rfl (by decide) lk_fRX11_368 (gD D_X11_release_0 43 rfl) (fun o76 eo76 => ?_)
      replace hw := hw o76 eo76
      obtain ⟨a77, rfl, hw⟩ := hw
      refine v_getI X RX3 TX3 6 4 3 (by decide) rfl gin3 0 300 RX3 (Or.inl rfl) 0 rfl rfl (by decide) lk_fRX11_378 (gD D_X11_release_0 44 rfl) ?_
      refine v_iload_n X 2 rfl (gD D_X11_release_0 45 rfl) rfl ?_
      refine v_ineg X (gD D_X11_release_0 46 rfl) ?_
      obtain ⟨a78, rfl, hw⟩ := hw
      refine v_callVv X (As := [.int (sI σ 1003 a73), .int (sI σ 300 a77), .int (-x2)]) (rest := []) (nA := 3) 0 0 0 0 (fun ht => c_X1_add htr (ht.sub [3] rfl) hw) (Or.inl rfl) 3 (κ := 2) rfl (by decide) (rfl : gCl[1]? = some (RX1, TX1, 2)) lk_vRX11_202 (by decide +kernel) rfl rfl (by decide) (by decide) (by decide) rfl rfl (gD D_X11_release_0 47 rfl) (fun s80 hq _ _ => ?_)
      replace hw := hq
      clear hq
      exact v_vret X hr hw (gD D_X11_release_0 48 rfl)
set_option maxRecDepth 100000 in
set_option maxHeartbeats 4000000 in
theorem c_X11_release {l : Launch} {G : GX} (htr : l.stackTraces = false) {σ : St} {a0 : Nat} {a1 : Nat} {x2 : Int32} {Q : St → Prop} (ht : tvOk σ [(some a0, 12), (some a1, 3)]) (hw : w_X11_release a0 a1 x2 σ Q) : MV l G 1 σ yX11_release cX11_release 3 1 0 0 [va_rf (some a0), va_rf (some a1), .int x2] Q := by
  unfold w_X11_release at hw
  refine m_start RX11 (by decide) htr ht (Nat.le_of_ble_eq_true rfl) rfl (lv := [(0, va_rf (some a0)), (1, va_rf (some a1)), (2, .int x2)]) (d := 1) (fun p e s m args below meth c X hr hin => ?_)
  refine v_aload_n X 1 rfl (gD D_X11_release_0 0 rfl) rfl ?_
  refine v_dup X (gD D_X11_release_0 1 rfl) (rf_cat _) ?_
  refine v_getI X RX2 TX2 6 3 2 (by decide) rfl gin2 4 204 RX2 (Or.inl rfl) 1 rfl rfl (by decide) lk_fRX11_271 (gD D_X11_release_0 2 rfl) ?_
  refine v_iload_n X 2 rfl (gD D_X11_release_0 3 rfl) rfl ?_
  refine v_isub X (gD D_X11_release_0 4 rfl) ?_
  refine v_putI X RX2 TX2 6 3 2 (by decide) rfl gin2 4 204 tyX2 tyX2_ok nmX2 RX2 (Or.inl rfl) 1 rfl .int (int_fit _) rfl (by decide) (Or.inl rfl) lk_fRX11_271 rfl rfl (gD D_X11_release_0 5 rfl) (fun s51 es51 => ?_)
  replace hw := hw s51 es51
  refine v_aload_n X 0 rfl (gD D_X11_release_0 6 rfl) rfl ?_
  refine v_getR X RX11 TX11 19 12 11 (by decide) rfl gin11 9 1109 RX11 (Or.inl rfl) 0 1 rfl rfl rfl (by decide) lk_fRX11_52 (gD D_X11_release_0 7 rfl) (fun o52 eo52 => ?_)
  replace hw := hw o52 eo52
  obtain ⟨a53, rfl, hw⟩ := hw
  refine v_getR X RX0 TX0 8 1 0 (by decide) rfl gin0 3 3 RX0 (Or.inl rfl) 0 2 rfl rfl rfl (by decide) lk_fRX11_402 (gD D_X11_release_0 8 rfl) (fun o54 eo54 => ?_)
  replace hw := hw o54 eo54
  refine v_aload_n X 1 rfl (gD D_X11_release_0 9 rfl) rfl ?_
  refine v_getI X RX2 TX2 6 3 2 (by decide) rfl gin2 2 202 RX2 (Or.inl rfl) 3 rfl rfl (by decide) lk_fRX11_407 (gD D_X11_release_0 10 rfl) ?_
  refine v_aload_n X 1 rfl (gD D_X11_release_0 11 rfl) rfl ?_
  refine v_getR X RX2 TX2 6 3 2 (by decide) rfl gin2 3 203 RX2 (Or.inl rfl) 3 6 rfl rfl rfl (by decide) lk_fRX11_410 (gD D_X11_release_0 12 rfl) (fun o55 eo55 => ?_)
  replace hw := hw o55 eo55
  obtain ⟨a56, rfl, hw⟩ := hw
  refine v_getI X RX5 TX5 4 6 5 (by decide) rfl gin5 0 500 RX5 (Or.inl rfl) 0 rfl rfl (by decide) lk_fRX11_167 (gD D_X11_release_0 13 rfl) ?_
  refine v_iload_n X 2 rfl (gD D_X11_release_0 14 rfl) rfl ?_
  refine v_ineg X (gD D_X11_release_0 15 rfl) ?_
  obtain ⟨a57, rfl, hw⟩ := hw
  refine v_callVv X (As := [.int (sI s51 202 a1), .int (sI s51 500 a56), .int (-x2)]) (rest := []) (nA := 3) 0 0 0 0 (fun ht => c_X1_add htr (ht.sub [1] rfl) hw) (Or.inl rfl) 1 (κ := 2) rfl (by decide) (rfl : gCl[1]? = some (RX1, TX1, 2)) lk_vRX11_202 (by decide +kernel) rfl rfl (by decide) (by decide) (by decide) rfl rfl (gD D_X11_release_0 16 rfl) (fun s59 hq _ _ => ?_)
  replace hw := hq
  clear hq
  refine v_aload_n X 1 rfl (gD D_X11_release_0 17 rfl) rfl ?_
  refine v_getR X RX2 TX2 6 3 2 (by decide) rfl gin2 1 201 RX2 (Or.inl rfl) 4 5 rfl rfl rfl (by decide) lk_fRX11_414 (gD D_X11_release_0 18 rfl) (fun o60 eo60 => ?_)
  replace hw := hw o60 eo60
  refine v_ifnull X 53 (gD D_X11_release_0 19 rfl) (by decide) (fun c61 => ?_) (fun a62 c61 => ?_)
  · replace hw := hw.1 c61
    subst c61
    exact v_sub [4, 5] [0, 1, 2] rfl rfl (t_X11_release_53 X hr hin htr  a0 a1 x2 s59 hw)
  · replace hw := hw.2 a62 c61
    subst c61
    refine v_aload_n X 1 rfl (gD D_X11_release_0 20 rfl) rfl ?_
    refine v_getR X RX2 TX2 6 3 2 (by decide) rfl gin2 1 201 RX2 (Or.inl rfl) 5 5 rfl rfl rfl (by decide) lk_fRX11_414 (gD D_X11_release_0 21 rfl) (fun o81 eo81 => ?_)
    replace hw := hw o81 eo81
    refine v_dup X (gD D_X11_release_0 22 rfl) (rf_cat _) ?_
    obtain ⟨a82, rfl, hw⟩ := hw
    refine v_getI X RX4 TX4 4 5 4 (by decide) rfl gin4 2 402 RX4 (Or.inl rfl) 0 rfl rfl (by decide) lk_fRX11_405 (gD D_X11_release_0 23 rfl) ?_
    refine v_iload_n X 2 rfl (gD D_X11_release_0 24 rfl) rfl ?_
    refine v_isub X (gD D_X11_release_0 25 rfl) ?_
    refine v_putI X RX4 TX4 4 5 4 (by decide) rfl gin4 2 402 tyX4 tyX4_ok nmX4 RX4 (Or.inl rfl) 0 rfl .int (int_fit _) rfl (by decide) (Or.inl rfl) lk_fRX11_405 rfl rfl (gD D_X11_release_0 26 rfl) (fun s83 es83 => ?_)
    replace hw := hw s83 es83
    exact v_sub [5, 6] [0, 1, 2] rfl rfl (t_X11_release_53 X hr hin htr  a0 a1 x2 s83 hw)
set_option maxRecDepth 100000 in
set_option maxHeartbeats 4000000 in
theorem c_X11_strangeness {l : Launch} {G : GX} (htr : l.stackTraces = false) {σ : St} {a0 : Nat} {x1 : Int32} {a2 : Nat} {Q : Int32 → St → Prop} (ht : tvOk σ [(some a0, 12), (some a2, 6)]) (hw : w_X11_strangeness a0 x1 a2 σ Q) : MI l G 1 σ yX11_strangeness cX11_strangeness 3 (some .int) 1 0 0 [va_rf (some a0), .int x1, va_rf (some a2)] Q := by
  unfold w_X11_strangeness at hw
  refine m_start RX11 (by decide) htr ht (Nat.le_of_ble_eq_true rfl) rfl (lv := [(0, va_rf (some a0)), (1, .int x1), (2, va_rf (some a2))]) (d := 1) (fun p e s m args below meth c X hr hin => ?_)
  refine v_aload_n X 0 rfl (gD D_X11_strangeness_0 0 rfl) rfl ?_
  refine v_getR X RX11 TX11 19 12 11 (by decide) rfl gin11 9 1109 RX11 (Or.inl rfl) 0 1 rfl rfl rfl (by decide) lk_fRX11_52 (gD D_X11_strangeness_0 1 rfl) (fun o51 eo51 => ?_)
  replace hw := hw o51 eo51
  obtain ⟨a52, rfl, hw⟩ := hw
  refine v_getR X RX0 TX0 8 1 0 (by decide) rfl gin0 0 0 RX0 (Or.inl rfl) 0 2 rfl rfl rfl (by decide) lk_fRX11_173 (gD D_X11_strangeness_0 2 rfl) (fun o53 eo53 => ?_)
  replace hw := hw o53 eo53
  refine v_iload_n X 1 rfl (gD D_X11_strangeness_0 3 rfl) rfl ?_
  refine v_aload_n X 2 rfl (gD D_X11_strangeness_0 4 rfl) rfl ?_
  refine v_getI X RX5 TX5 4 6 5 (by decide) rfl gin5 0 500 RX5 (Or.inl rfl) 3 rfl rfl (by decide) lk_fRX11_167 (gD D_X11_strangeness_0 5 rfl) ?_
  obtain ⟨a54, rfl, hw⟩ := hw
  refine v_callVi X (As := [.int x1, .int (sI σ 500 a2)]) (rest := []) (nA := 2) 0 0 0 0 (fun ht => c_X1_at htr (ht.sub [0] rfl) hw) (Or.inl rfl) 0 (κ := 2) rfl (by decide) (rfl : gCl[1]? = some (RX1, TX1, 2)) lk_vRX11_176 (by decide +kernel) rfl rfl (by decide) (by decide) (by decide) rfl rfl (gD D_X11_strangeness_0 6 rfl) (fun x55 s56 hq _ _ => ?_)
  replace hw := hq
  clear hq
  refine v_if_le X 20 (gD D_X11_strangeness_0 7 rfl) (by decide) (fun c57 => ?_) (fun c57 => ?_)
  · replace hw := hw.1 c57
    refine v_aload_n X 0 rfl (gD D_X11_strangeness_0 10 rfl) rfl ?_
    refine v_getR X RX11 TX11 19 12 11 (by decide) rfl gin11 9 1109 RX11 (Or.inl rfl) 2 1 rfl rfl rfl (by decide) lk_fRX11_52 (gD D_X11_strangeness_0 11 rfl) (fun o58 eo58 => ?_)
    replace hw := hw o58 eo58
    obtain ⟨a59, rfl, hw⟩ := hw
    refine v_getR X RX0 TX0 8 1 0 (by decide) rfl gin0 1 1 RX0 (Or.inl rfl) 0 2 rfl rfl rfl (by decide) lk_fRX11_375 (gD D_X11_strangeness_0 12 rfl) (fun o60 eo60 => ?_)
    replace hw := hw o60 eo60
    refine v_iload_n X 1 rfl (gD D_X11_strangeness_0 13 rfl) rfl ?_
    refine v_aload_n X 2 rfl (gD D_X11_strangeness_0 14 rfl) rfl ?_
    refine v_getR X RX5 TX5 4 6 5 (by decide) rfl gin5 1 501 RX5 (Or.inl rfl) 5 4 rfl rfl rfl (by decide) lk_fRX11_368 (gD D_X11_strangeness_0 15 rfl) (fun o61 eo61 => ?_)
    replace hw := hw o61 eo61
    obtain ⟨a62, rfl, hw⟩ := hw
    refine v_getI X RX3 TX3 6 4 3 (by decide) rfl gin3 0 300 RX3 (Or.inl rfl) 0 rfl rfl (by decide) lk_fRX11_378 (gD D_X11_strangeness_0 16 rfl) ?_
    obtain ⟨a63, rfl, hw⟩ := hw
    refine v_callVi X (As := [.int x1, .int (sI s56 300 a62)]) (rest := []) (nA := 2) 0 0 0 0 (fun ht => c_X1_at htr (ht.sub [1] rfl) hw) (Or.inl rfl) 1 (κ := 2) rfl (by decide) (rfl : gCl[1]? = some (RX1, TX1, 2)) lk_vRX11_176 (by decide +kernel) rfl rfl (by decide) (by decide) (by decide) rfl rfl (gD D_X11_strangeness_0 17 rfl) (fun x64 s65 hq _ _ => ?_)
    replace hw := hq
    clear hq
    refine v_if_le X 45 (gD D_X11_strangeness_0 18 rfl) (by decide) (fun c66 => ?_) (fun c66 => ?_)
    · replace hw := hw.1 c66
      refine v_iconst X 2 (gD D_X11_strangeness_0 21 rfl) (by decide) ?_
      exact v_iret X hr hw (gD D_X11_strangeness_0 22 rfl)
    · replace hw := hw.2 c66
      refine v_iconst X 1 (gD D_X11_strangeness_0 19 rfl) (by decide) ?_
      refine v_goto X 46 (gD D_X11_strangeness_0 20 rfl) (by decide) ?_
      exact v_iret X hr hw (gD D_X11_strangeness_0 22 rfl)
  · replace hw := hw.2 c57
    refine v_iconst X 0 (gD D_X11_strangeness_0 8 rfl) (by decide) ?_
    exact v_iret X hr hw (gD D_X11_strangeness_0 9 rfl)
set_option maxRecDepth 100000 in
set_option maxHeartbeats 4000000 in
theorem c_X11_tasks {l : Launch} {G : GX} (htr : l.stackTraces = false) {σ : St} {a0 : Nat} {Q : Int32 → St → Prop} (ht : tvOk σ [(some a0, 12)]) (hw : w_X11_tasks a0 σ Q) : MI l G 1 σ yX11_tasks cX11_tasks 1 (some .int) 1 0 0 [va_rf (some a0)] Q := by
  unfold w_X11_tasks at hw
  refine m_start RX11 (by decide) htr ht (Nat.le_of_ble_eq_true rfl) rfl (lv := [(0, va_rf (some a0))]) (d := 1) (fun p e s m args below meth c X hr hin => ?_)
  refine v_aload_n X 0 rfl (gD D_X11_tasks_0 0 rfl) rfl ?_
  refine v_getR X RX11 TX11 19 12 11 (by decide) rfl gin11 8 1108 RX11 (Or.inl rfl) 0 30 rfl rfl rfl (by decide) lk_fRX11_46 (gD D_X11_tasks_0 1 rfl) (fun o51 eo51 => ?_)
  replace hw := hw o51 eo51
  obtain ⟨a52, rfl, hw⟩ := hw
  refine v_callVi X (As := []) (rest := []) (nA := 0) 0 0 0 0 (fun ht => c_Jx4a65c_size_8abf5 htr (ht.sub [0] rfl) hw) (Or.inl rfl) 0 (κ := 30) rfl (by decide) (rfl : gCl[13]? = some (RJx4a65c, TJx4a65c, 3)) lk_vRX11_145 (by decide +kernel) rfl rfl (by decide) (by decide) (by decide) rfl rfl (gD D_X11_tasks_0 2 rfl) (fun x53 s54 hq _ _ => ?_)
  replace hw := hq
  clear hq
  exact v_iret X hr hw (gD D_X11_tasks_0 3 rfl)
set_option maxRecDepth 100000 in
set_option maxHeartbeats 4000000 in
theorem t_X11_turnInWave_28 {p : Program} {l : Launch} {e : Env} {s : State} {m : MethodId} {args : Array Value} {below : List Frame} {meth : Method} {c : Code} {G : GX} {σ0 : St} {mc ms : Nat} {Q : Int32 → St → Prop} (X : VC p l (rmD 1 mc ms) s m args meth c G 1 mc ms 5 RX11 cX11_turnInWave) (hr : meth.sig.returnType = (some .int)) (hin : meth.name = yX11_turnInWave.name) (htr : l.stackTraces = false) : ∀ (a0 : Nat) (x1 : Int32) (xs0 : Int32) (σ : St), w_X11_turnInWave_28 Q  a0 x1 xs0 σ → V p l e (rmD 1 mc ms) s m args below meth c (MQ below (va_Qi Q (gB G 1 σ0) (GA G)) args s mc ms (GA G)) G 1 σ0 mc ms 5 σ 0 0 [(some a0, 3)] 28 [(0, va_rf (some a0)), (1, .int x1)] [.int xs0] := by
  intro a0 x1 xs0 σ hw
  unfold w_X11_turnInWave_28 at hw
  refine v_istore_n X [(3, .int xs0), (0, va_rf (some a0)), (1, .int x1)] (gD D_X11_turnInWave_0 18 rfl) rfl (by decide) rfl ?_
  refine v_iload_n X 2 rfl (gD D_X11_turnInWave_0 19 rfl) rfl ?_
  refine v_bipush X 6 (gD D_X11_turnInWave_0 20 rfl) (by decide) ?_
  refine v_imul X (gD D_X11_turnInWave_0 21 rfl) ?_
  refine v_iload_n X 0 rfl (gD D_X11_turnInWave_0 22 rfl) rfl ?_
  refine v_iadd X (gD D_X11_turnInWave_0 23 rfl) ?_
  refine v_topi (fun x54 ex54 => ?_)
  replace hw := hw x54 ex54
  refine v_istore X [(4, .int x54), (3, .int xs0), (0, va_rf (some a0)), (1, .int x1)] (gD D_X11_turnInWave_0 24 rfl) (by decide) rfl ?_
  refine v_iload X 0 rfl (gD D_X11_turnInWave_0 25 rfl) ?_
  refine v_bipush X 12 (gD D_X11_turnInWave_0 26 rfl) (by decide) ?_
  refine v_imul X (gD D_X11_turnInWave_0 27 rfl) ?_
  refine v_aload_n X 2 rfl (gD D_X11_turnInWave_0 28 rfl) rfl ?_
  refine v_getR X RX2 TX2 6 3 2 (by decide) rfl gin2 3 203 RX2 (Or.inl rfl) 0 6 rfl rfl rfl (by decide) lk_fRX11_410 (gD D_X11_turnInWave_0 29 rfl) (fun o55 eo55 => ?_)
  replace hw := hw o55 eo55
  obtain ⟨a56, rfl, hw⟩ := hw
  refine v_getI X RX5 TX5 4 6 5 (by decide) rfl gin5 0 500 RX5 (Or.inl rfl) 0 rfl rfl (by decide) lk_fRX11_167 (gD D_X11_turnInWave_0 30 rfl) ?_
  refine v_iadd X (gD D_X11_turnInWave_0 31 rfl) ?_
  refine v_bipush X 9 (gD D_X11_turnInWave_0 32 rfl) (by decide) ?_
  refine v_imul X (gD D_X11_turnInWave_0 33 rfl) ?_
  refine v_aload_n X 2 rfl (gD D_X11_turnInWave_0 34 rfl) rfl ?_
  refine v_callVi X (As := []) (rest := [.int (((x54 * 12) + (sI σ 500 a56)) * 9)]) (nA := 0) 0 0 0 0 (fun ht => c_X2_turn htr (ht.sub [1] rfl) hw) (Or.inl rfl) 1 (κ := 3) rfl (by decide) (rfl : gCl[2]? = some (RX2, TX2, 6)) lk_vRX11_264 (by decide +kernel) rfl rfl (by simp [rf_cat, ct_i]) (by decide) (by decide) rfl rfl (gD D_X11_turnInWave_0 35 rfl) (fun x57 s58 hq _ _ => ?_)
  replace hw := hq
  clear hq
  refine v_iadd X (gD D_X11_turnInWave_0 36 rfl) ?_
  exact v_iret X hr hw (gD D_X11_turnInWave_0 37 rfl)
set_option maxRecDepth 100000 in
set_option maxHeartbeats 4000000 in
theorem c_X11_turnInWave {l : Launch} {G : GX} (htr : l.stackTraces = false) {σ : St} {a0 : Nat} {Q : Int32 → St → Prop} (ht : tvOk σ [(some a0, 3)]) (hw : w_X11_turnInWave a0 σ Q) : MI l G 1 σ yX11_turnInWave cX11_turnInWave 5 (some .int) 1 0 0 [va_rf (some a0)] Q := by
  unfold w_X11_turnInWave at hw
  refine m_start RX11 (by decide) htr ht (Nat.le_of_ble_eq_true rfl) rfl (lv := [(0, va_rf (some a0))]) (d := 1) (fun p e s m args below meth c X hr hin => ?_)
  refine v_aload_n X 0 rfl (gD D_X11_turnInWave_0 0 rfl) rfl ?_
  refine v_getI X RX2 TX2 6 3 2 (by decide) rfl gin2 2 202 RX2 (Or.inl rfl) 0 rfl rfl (by decide) lk_fRX11_407 (gD D_X11_turnInWave_0 1 rfl) ?_
  refine v_bipush X 6 (gD D_X11_turnInWave_0 2 rfl) (by decide) ?_
  refine v_idiv X (gD D_X11_turnInWave_0 3 rfl) (by decide) ?_
  refine v_topi (fun x51 ex51 => ?_)
  replace hw := hw x51 ex51
  refine v_istore_n X [(1, .int x51), (0, va_rf (some a0))] (gD D_X11_turnInWave_0 4 rfl) rfl (by decide) rfl ?_
  refine v_aload_n X 1 rfl (gD D_X11_turnInWave_0 5 rfl) rfl ?_
  refine v_getI X RX2 TX2 6 3 2 (by decide) rfl gin2 2 202 RX2 (Or.inl rfl) 0 rfl rfl (by decide) lk_fRX11_407 (gD D_X11_turnInWave_0 6 rfl) ?_
  refine v_bipush X 6 (gD D_X11_turnInWave_0 7 rfl) (by decide) ?_
  refine v_irem X (gD D_X11_turnInWave_0 8 rfl) (by decide) ?_
  refine v_topi (fun x52 ex52 => ?_)
  replace hw := hw x52 ex52
  refine v_istore_n X [(2, .int x52), (1, .int x51), (0, va_rf (some a0))] (gD D_X11_turnInWave_0 9 rfl) rfl (by decide) rfl ?_
  refine v_iload_n X 1 rfl (gD D_X11_turnInWave_0 10 rfl) rfl ?_
  refine v_iconst X 1 (gD D_X11_turnInWave_0 11 rfl) (by decide) ?_
  refine v_icmp_ne X 27 (gD D_X11_turnInWave_0 12 rfl) (by decide) (fun c53 => ?_) (fun c53 => ?_)
  · replace hw := hw.1 c53
    refine v_iload_n X 0 rfl (gD D_X11_turnInWave_0 17 rfl) rfl ?_
    exact v_sub [0] [2, 1] rfl rfl (t_X11_turnInWave_28 X hr hin htr  a0 x51 x52 σ hw)
  · replace hw := hw.2 c53
    refine v_iconst X 5 (gD D_X11_turnInWave_0 13 rfl) (by decide) ?_
    refine v_iload_n X 0 rfl (gD D_X11_turnInWave_0 14 rfl) rfl ?_
    refine v_isub X (gD D_X11_turnInWave_0 15 rfl) ?_
    refine v_goto X 28 (gD D_X11_turnInWave_0 16 rfl) (by decide) ?_
    exact v_sub [0] [2, 1] rfl rfl (t_X11_turnInWave_28 X hr hin htr  a0 x51 (5 - x52) σ hw)
set_option maxRecDepth 100000 in
set_option maxHeartbeats 4000000 in
theorem c_X11_where {l : Launch} {G : GX} (htr : l.stackTraces = false) {k n : Nat} {σ : St} {a0 : Nat} {x1 : Int32} {Q : Int32 → St → Prop} {Y : Nat → St → Prop} (ht : tvOk σ [(some a0, 12)]) (hw : w_X11_where k n a0 x1 σ Q Y) : MIX l G 1 σ yX11_where cX11_where 3 (some .int) 1 k n [va_rf (some a0), .int x1] Q Y := by
  unfold w_X11_where at hw
  refine m_startX RX11 (by decide) htr ht (Nat.le_of_ble_eq_true rfl) rfl (lv := [(0, va_rf (some a0)), (1, .int x1)]) (d := 1) (fun p e s m args below meth c X hr hin hex => ?_)
  refine v_iload_n X 1 rfl (gD D_X11_where_0 0 rfl) rfl ?_
  refine v_callSi X (As := [.int x1]) (rest := []) (nA := 1) 0 0 k n (fun ht => c_X11_isRobot htr (ht.sub [] rfl) hw) (Or.inl rfl) lk_sRX11_273 (by decide +kernel) rfl rfl (by decide) (by decide) (by decide) rfl rfl (gD D_X11_where_0 1 rfl) (fun x51 s52 hq _ _ => ?_)
  replace hw := hq
  clear hq
  refine v_if_ne X 15 (gD D_X11_where_0 2 rfl) (by decide) (fun c53 => ?_) (fun c53 => ?_)
  · replace hw := hw.1 c53
    refine v_aload_n X 0 rfl (gD D_X11_where_0 7 rfl) rfl ?_
    refine v_getR X RX11 TX11 19 12 11 (by decide) rfl gin11 2 1102 RX11 (Or.inl rfl) 0 26 rfl rfl rfl (by decide) lk_fRX11_23 (gD D_X11_where_0 8 rfl) (fun o54 eo54 => ?_)
    replace hw := hw o54 eo54
    refine v_iload_n X 1 rfl (gD D_X11_where_0 9 rfl) rfl ?_
    obtain ⟨a55, rfl, hw⟩ := hw
    obtain ⟨h56, hw⟩ := hw
    refine v_aald X 0 9 rfl (by decide) h56 (gD D_X11_where_0 10 rfl) (fun o57 eo57 => ?_)
    replace hw := hw o57 eo57
    refine v_astore_n X [(2, va_rf o57), (0, va_rf (some a0)), (1, .int x1)] (gD D_X11_where_0 11 rfl) rfl (by decide) rfl ?_
    refine v_aload_n X 0 rfl (gD D_X11_where_0 12 rfl) rfl ?_
    obtain ⟨a58, rfl, hw⟩ := hw
    refine v_getI X RX8 TX8 4 9 8 (by decide) rfl gin8 1 801 RX8 (Or.inl rfl) 0 rfl rfl (by decide) lk_fRX11_308 (gD D_X11_where_0 13 rfl) ?_
    refine v_iconst X (-1) (gD D_X11_where_0 14 rfl) (by decide) ?_
    refine v_icmp_ne X 34 (gD D_X11_where_0 15 rfl) (by decide) (fun c59 => ?_) (fun c59 => ?_)
    · replace hw := hw.1 c59
      refine v_bipush X 10 (gD D_X11_where_0 18 rfl) (by decide) ?_
      refine v_aload_n X 0 rfl (gD D_X11_where_0 19 rfl) rfl ?_
      refine v_getI X RX8 TX8 4 9 8 (by decide) rfl gin8 1 801 RX8 (Or.inl rfl) 0 rfl rfl (by decide) lk_fRX11_308 (gD D_X11_where_0 20 rfl) ?_
      refine v_imul X (gD D_X11_where_0 21 rfl) ?_
      refine v_aload_n X 0 rfl (gD D_X11_where_0 22 rfl) rfl ?_
      refine v_getI X RX8 TX8 4 9 8 (by decide) rfl gin8 2 802 RX8 (Or.inl rfl) 0 rfl rfl (by decide) lk_fRX11_311 (gD D_X11_where_0 23 rfl) ?_
      refine v_iadd X (gD D_X11_where_0 24 rfl) ?_
      exact v_X (v_iret X hr hw (gD D_X11_where_0 25 rfl))
    · replace hw := hw.2 c59
      refine v_iconst X (-1) (gD D_X11_where_0 16 rfl) (by decide) ?_
      refine v_goto X 46 (gD D_X11_where_0 17 rfl) (by decide) ?_
      exact v_X (v_iret X hr hw (gD D_X11_where_0 25 rfl))
  · replace hw := hw.2 c53
    exact v_throw X hex 1 (by decide +kernel) lk_xRX11_83 lk_xi_1 lk_xaRX11_85 lk_xgRX11_83_85 (gD D_X11_where_0 3 rfl) (gD D_X11_where_0 4 rfl) (gD D_X11_where_0 5 rfl) (gD D_X11_where_0 6 rfl) (by decide) hw
set_option maxRecDepth 100000 in
set_option maxHeartbeats 4000000 in
theorem c_X0_write {l : Launch} {G : GX} (htr : l.stackTraces = false) {k n : Nat} {σ : St} {a0 : Nat} {x1 : Int32} {x2 : Int32} {a3 : Nat} {x4 : Int32} {Q : St → Prop} (ht : tvOk σ [(some a0, 1), (some a3, 6)]) (hw : w_X0_write k n a0 x1 x2 a3 x4 σ Q) : MV l G 1 σ yX0_write cX0_write 5 2 k n [va_rf (some a0), .int x1, .int x2, va_rf (some a3), .int x4] Q := by
  unfold w_X0_write at hw
  refine m_start RX0 (by decide) htr ht (Nat.le_of_ble_eq_true rfl) rfl (lv := [(0, va_rf (some a0)), (1, .int x1), (2, .int x2), (3, va_rf (some a3)), (4, .int x4)]) (d := 1) (fun p e s m args below meth c X hr hin => ?_)
  refine v_iload X 4 rfl (gD D_X0_write_0 0 rfl) ?_
  refine v_if_ne X 6 (gD D_X0_write_0 1 rfl) (by decide) (fun c51 => ?_) (fun c51 => ?_)
  · replace hw := hw.1 c51
    refine v_aload_n X 0 rfl (gD D_X0_write_0 3 rfl) rfl ?_
    refine v_getR X RX0 TX0 8 1 0 (by decide) rfl gin0 0 0 RX0 (Or.inl rfl) 0 2 rfl rfl rfl (by decide) lk_fRX0_14 (gD D_X0_write_0 4 rfl) (fun o52 eo52 => ?_)
    replace hw := hw o52 eo52
    refine v_iload_n X 1 rfl (gD D_X0_write_0 5 rfl) rfl ?_
    refine v_aload_n X 3 rfl (gD D_X0_write_0 6 rfl) rfl ?_
    refine v_getI X RX5 TX5 4 6 5 (by decide) rfl gin5 0 500 RX5 (Or.inl rfl) 2 rfl rfl (by decide) lk_fRX0_39 (gD D_X0_write_0 7 rfl) ?_
    refine v_iload X 4 rfl (gD D_X0_write_0 8 rfl) ?_
    refine v_ineg X (gD D_X0_write_0 9 rfl) ?_
    obtain ⟨a53, rfl, hw⟩ := hw
    refine v_callVv X (As := [.int x1, .int (sI σ 500 a3), .int (-x4)]) (rest := []) (nA := 3) 0 0 k n (fun ht => c_X1_add htr (ht.sub [0] rfl) hw) (Or.inl rfl) 0 (κ := 2) rfl (by decide) (rfl : gCl[1]? = some (RX1, TX1, 2)) lk_vRX0_54 (by decide +kernel) rfl rfl (by decide) (by decide) (by decide) rfl rfl (gD D_X0_write_0 10 rfl) (fun s55 hq _ _ => ?_)
    replace hw := hq
    clear hq
    refine v_aload_n X 0 rfl (gD D_X0_write_0 11 rfl) rfl ?_
    refine v_getR X RX0 TX0 8 1 0 (by decide) rfl gin0 0 0 RX0 (Or.inl rfl) 1 2 rfl rfl rfl (by decide) lk_fRX0_14 (gD D_X0_write_0 12 rfl) (fun o56 eo56 => ?_)
    replace hw := hw o56 eo56
    refine v_iload_n X 2 rfl (gD D_X0_write_0 13 rfl) rfl ?_
    refine v_aload_n X 3 rfl (gD D_X0_write_0 14 rfl) rfl ?_
    refine v_getI X RX5 TX5 4 6 5 (by decide) rfl gin5 0 500 RX5 (Or.inl rfl) 3 rfl rfl (by decide) lk_fRX0_39 (gD D_X0_write_0 15 rfl) ?_
    refine v_iload X 4 rfl (gD D_X0_write_0 16 rfl) ?_
    obtain ⟨a57, rfl, hw⟩ := hw
    refine v_callVv X (As := [.int x2, .int (sI s55 500 a3), .int x4]) (rest := []) (nA := 3) 0 0 k n (fun ht => c_X1_add htr (ht.sub [0] rfl) hw) (Or.inl rfl) 0 (κ := 2) rfl (by decide) (rfl : gCl[1]? = some (RX1, TX1, 2)) lk_vRX0_54 (by decide +kernel) rfl rfl (by decide) (by decide) (by decide) rfl rfl (gD D_X0_write_0 17 rfl) (fun s59 hq _ _ => ?_)
    replace hw := hq
    clear hq
    refine v_aload_n X 0 rfl (gD D_X0_write_0 18 rfl) rfl ?_
    refine v_getR X RX0 TX0 8 1 0 (by decide) rfl gin0 1 1 RX0 (Or.inl rfl) 2 2 rfl rfl rfl (by decide) lk_fRX0_20 (gD D_X0_write_0 19 rfl) (fun o60 eo60 => ?_)
    replace hw := hw o60 eo60
    refine v_iload_n X 1 rfl (gD D_X0_write_0 20 rfl) rfl ?_
    refine v_aload_n X 3 rfl (gD D_X0_write_0 21 rfl) rfl ?_
    refine v_getR X RX5 TX5 4 6 5 (by decide) rfl gin5 1 501 RX5 (Or.inl rfl) 4 4 rfl rfl rfl (by decide) lk_fRX0_62 (gD D_X0_write_0 22 rfl) (fun o61 eo61 => ?_)
    replace hw := hw o61 eo61
    obtain ⟨a62, rfl, hw⟩ := hw
    refine v_getI X RX3 TX3 6 4 3 (by decide) rfl gin3 0 300 RX3 (Or.inl rfl) 0 rfl rfl (by decide) lk_fRX0_66 (gD D_X0_write_0 23 rfl) ?_
    refine v_iload X 4 rfl (gD D_X0_write_0 24 rfl) ?_
    refine v_ineg X (gD D_X0_write_0 25 rfl) ?_
    obtain ⟨a63, rfl, hw⟩ := hw
    refine v_callVv X (As := [.int x1, .int (sI s59 300 a62), .int (-x4)]) (rest := []) (nA := 3) 0 0 k n (fun ht => c_X1_add htr (ht.sub [1] rfl) hw) (Or.inl rfl) 1 (κ := 2) rfl (by decide) (rfl : gCl[1]? = some (RX1, TX1, 2)) lk_vRX0_54 (by decide +kernel) rfl rfl (by decide) (by decide) (by decide) rfl rfl (gD D_X0_write_0 26 rfl) (fun s65 hq _ _ => ?_)
    replace hw := hq
    clear hq
    refine v_aload_n X 0 rfl (gD D_X0_write_0 27 rfl) rfl ?_
    refine v_getR X RX0 TX0 8 1 0 (by decide) rfl gin0 1 1 RX0 (Or.inl rfl) 4 2 rfl rfl rfl (by decide) lk_fRX0_20 (gD D_X0_write_0 28 rfl) (fun o66 eo66 => ?_)
    replace hw := hw o66 eo66
    refine v_iload_n X 2 rfl (gD D_X0_write_0 29 rfl) rfl ?_
    refine v_aload_n X 3 rfl (gD D_X0_write_0 30 rfl) rfl ?_
    refine v_getR X RX5 TX5 4 6 5 (by decide) rfl gin5 1 501 RX5 (Or.inl rfl) 6 4 rfl rfl rfl (by decide) lk_fRX0_62 (gD D_X0_write_0 31 rfl) (fun o67 eo67 => ?_)
    replace hw := hw o67 eo67
    obtain ⟨a68, rfl, hw⟩ := hw
    refine v_getI X RX3 TX3 6 4 3 (by decide) rfl gin3 0 300 RX3 (Or.inl rfl) 0 rfl rfl (by decide) lk_fRX0_66 (gD D_X0_write_0 32 rfl) ?_
    refine v_iload X 4 rfl (gD D_X0_write_0 33 rfl) ?_
    obtain ⟨a69, rfl, hw⟩ := hw
    refine v_callVv X (As := [.int x2, .int (sI s65 300 a68), .int x4]) (rest := []) (nA := 3) 0 0 k n (fun ht => c_X1_add htr (ht.sub [1] rfl) hw) (Or.inl rfl) 1 (κ := 2) rfl (by decide) (rfl : gCl[1]? = some (RX1, TX1, 2)) lk_vRX0_54 (by decide +kernel) rfl rfl (by decide) (by decide) (by decide) rfl rfl (gD D_X0_write_0 34 rfl) (fun s71 hq _ _ => ?_)
    replace hw := hq
    clear hq
    refine v_aload_n X 0 rfl (gD D_X0_write_0 35 rfl) rfl ?_
    refine v_getR X RX0 TX0 8 1 0 (by decide) rfl gin0 5 5 RX0 (Or.inl rfl) 6 2 rfl rfl rfl (by decide) lk_fRX0_32 (gD D_X0_write_0 36 rfl) (fun o72 eo72 => ?_)
    replace hw := hw o72 eo72
    refine v_iload_n X 1 rfl (gD D_X0_write_0 37 rfl) rfl ?_
    refine v_aload_n X 3 rfl (gD D_X0_write_0 38 rfl) rfl ?_
    refine v_getI X RX5 TX5 4 6 5 (by decide) rfl gin5 0 500 RX5 (Or.inl rfl) 8 rfl rfl (by decide) lk_fRX0_39 (gD D_X0_write_0 39 rfl) ?_
    refine v_iconst X 0 (gD D_X0_write_0 40 rfl) (by decide) ?_
    obtain ⟨a73, rfl, hw⟩ := hw
    refine v_callVv X (As := [.int x1, .int (sI s71 500 a3), .int 0]) (rest := []) (nA := 3) 0 0 k n (fun ht => c_X1_put htr (ht.sub [0] rfl) hw) (Or.inl rfl) 0 (κ := 2) rfl (by decide) (rfl : gCl[1]? = some (RX1, TX1, 2)) lk_vRX0_69 (by decide +kernel) rfl rfl (by decide) (by decide) (by decide) rfl rfl (gD D_X0_write_0 41 rfl) (fun s75 hq _ _ => ?_)
    replace hw := hq
    clear hq
    refine v_aload_n X 0 rfl (gD D_X0_write_0 42 rfl) rfl ?_
    refine v_getR X RX0 TX0 8 1 0 (by decide) rfl gin0 5 5 RX0 (Or.inl rfl) 7 2 rfl rfl rfl (by decide) lk_fRX0_32 (gD D_X0_write_0 43 rfl) (fun o76 eo76 => ?_)
    replace hw := hw o76 eo76
    refine v_iload_n X 2 rfl (gD D_X0_write_0 44 rfl) rfl ?_
    refine v_aload_n X 3 rfl (gD D_X0_write_0 45 rfl) rfl ?_
    refine v_getI X RX5 TX5 4 6 5 (by decide) rfl gin5 0 500 RX5 (Or.inl rfl) 9 rfl rfl (by decide) lk_fRX0_39 (gD D_X0_write_0 46 rfl) ?_
    refine v_iconst X 0 (gD D_X0_write_0 47 rfl) (by decide) ?_
    obtain ⟨a77, rfl, hw⟩ := hw
    refine v_callVv X (As := [.int x2, .int (sI s75 500 a3), .int 0]) (rest := []) (nA := 3) 0 0 k n (fun ht => c_X1_put htr (ht.sub [0] rfl) hw) (Or.inl rfl) 0 (κ := 2) rfl (by decide) (rfl : gCl[1]? = some (RX1, TX1, 2)) lk_vRX0_69 (by decide +kernel) rfl rfl (by decide) (by decide) (by decide) rfl rfl (gD D_X0_write_0 48 rfl) (fun s79 hq _ _ => ?_)
    replace hw := hq
    clear hq
    refine v_aload_n X 0 rfl (gD D_X0_write_0 49 rfl) rfl ?_
    refine v_iload_n X 1 rfl (gD D_X0_write_0 50 rfl) rfl ?_
    refine v_iload_n X 2 rfl (gD D_X0_write_0 51 rfl) rfl ?_
    refine v_aload_n X 3 rfl (gD D_X0_write_0 52 rfl) rfl ?_
    refine v_getI X RX5 TX5 4 6 5 (by decide) rfl gin5 0 500 RX5 (Or.inl rfl) 9 rfl rfl (by decide) lk_fRX0_39 (gD D_X0_write_0 53 rfl) ?_
    refine v_iload X 4 rfl (gD D_X0_write_0 54 rfl) ?_
    obtain ⟨k82, n83, k84, n85, h86, h87, hw⟩ := hw
    refine v_callVv X (As := [.int x1, .int x2, .int (sI s79 500 a3), .int x4]) (rest := []) (nA := 4) k82 n83 k84 n85 (fun ht => c_X0_note htr (ht.sub [8] rfl) hw) (Or.inl rfl) 8 (κ := 1) rfl (by decide) (rfl : gCl[0]? = some (RX0, TX0, 8)) lk_vRX0_72 (by decide +kernel) rfl rfl (by decide) (by decide) (by decide) h86 h87 (gD D_X0_write_0 55 rfl) (fun s81 hq _ _ => ?_)
    replace hw := hq
    clear hq
    exact v_vret X hr hw (gD D_X0_write_0 56 rfl)
  · replace hw := hw.2 c51
    exact v_vret X hr hw (gD D_X0_write_0 2 rfl)
set_option maxRecDepth 100000 in
set_option maxHeartbeats 4000000 in
theorem c_X11_cut {l : Launch} {G : GX} (htr : l.stackTraces = false) {σ : St} {a0 : Nat} {a1 : Nat} {x2 : Int32} {Q : Int32 → St → Prop} (ht : tvOk σ [(some a0, 12), (some a1, 3)]) (hw : w_X11_cut a0 a1 x2 σ Q) : MI l G 1 σ yX11_cut cX11_cut 4 (some .int) 2 0 0 [va_rf (some a0), va_rf (some a1), .int x2] Q := by
  unfold w_X11_cut at hw
  refine m_start RX11 (by decide) htr ht (Nat.le_of_ble_eq_true rfl) rfl (lv := [(0, va_rf (some a0)), (1, va_rf (some a1)), (2, .int x2)]) (d := 1) (fun p e s m args below meth c X hr hin => ?_)
  refine v_aload_n X 1 rfl (gD D_X11_cut_0 0 rfl) rfl ?_
  refine v_getI X RX2 TX2 6 3 2 (by decide) rfl gin2 4 204 RX2 (Or.inl rfl) 1 rfl rfl (by decide) lk_fRX11_271 (gD D_X11_cut_0 1 rfl) ?_
  refine v_iload_n X 2 rfl (gD D_X11_cut_0 2 rfl) rfl ?_
  refine v_mmin X lk_mRX11_329 lk_s_math_min lk_n_math lk_c_math_min (by decide) (gD D_X11_cut_0 3 rfl) ?_
  refine v_topi (fun x51 ex51 => ?_)
  replace hw := hw x51 ex51
  refine v_istore_n X [(3, .int x51), (0, va_rf (some a0)), (1, va_rf (some a1)), (2, .int x2)] (gD D_X11_cut_0 4 rfl) rfl (by decide) rfl ?_
  refine v_aload_n X 1 rfl (gD D_X11_cut_0 5 rfl) rfl ?_
  refine v_aload_n X 2 rfl (gD D_X11_cut_0 6 rfl) rfl ?_
  refine v_aload_n X 2 rfl (gD D_X11_cut_0 7 rfl) rfl ?_
  refine v_getI X RX2 TX2 6 3 2 (by decide) rfl gin2 4 204 RX2 (Or.inl rfl) 1 rfl rfl (by decide) lk_fRX11_271 (gD D_X11_cut_0 8 rfl) ?_
  refine v_iload_n X 0 rfl (gD D_X11_cut_0 9 rfl) rfl ?_
  refine v_isub X (gD D_X11_cut_0 10 rfl) ?_
  refine v_callVv X (As := [va_rf (some a1), .int ((sI σ 204 a1) - x51)]) (rest := []) (nA := 2) 0 0 0 0 (fun ht => c_X11_release htr (ht.sub [0, 1] rfl) hw) (Or.inl rfl) 0 (κ := 12) rfl (by decide) (rfl : gCl[11]? = some (RX11, TX11, 19)) lk_vRX11_432 (by decide +kernel) rfl rfl (by decide) (by decide) (by decide) rfl rfl (gD D_X11_cut_0 11 rfl) (fun s53 hq _ _ => ?_)
  replace hw := hq
  clear hq
  refine v_aload_n X 2 rfl (gD D_X11_cut_0 12 rfl) rfl ?_
  refine v_getR X RX2 TX2 6 3 2 (by decide) rfl gin2 5 205 RX2 (Or.inl rfl) 1 11 rfl rfl rfl (by decide) lk_fRX11_418 (gD D_X11_cut_0 13 rfl) (fun o54 eo54 => ?_)
  replace hw := hw o54 eo54
  refine v_ifnull X 47 (gD D_X11_cut_0 14 rfl) (by decide) (fun c55 => ?_) (fun a56 c55 => ?_)
  · replace hw := hw.1 c55
    subst c55
    refine v_iload_n X 0 rfl (gD D_X11_cut_0 25 rfl) rfl ?_
    exact v_iret X hr hw (gD D_X11_cut_0 26 rfl)
  · replace hw := hw.2 a56 c55
    subst c55
    refine v_aload_n X 2 rfl (gD D_X11_cut_0 15 rfl) rfl ?_
    refine v_getR X RX2 TX2 6 3 2 (by decide) rfl gin2 5 205 RX2 (Or.inl rfl) 2 11 rfl rfl rfl (by decide) lk_fRX11_418 (gD D_X11_cut_0 16 rfl) (fun o57 eo57 => ?_)
    replace hw := hw o57 eo57
    refine v_iload_n X 0 rfl (gD D_X11_cut_0 17 rfl) rfl ?_
    obtain ⟨a58, rfl, hw⟩ := hw
    refine v_putI X RX10 TX10 7 11 10 (by decide) rfl gin10 4 1004 tyX10 tyX10_ok nmX10 RX10 (Or.inl rfl) 0 rfl .int (int_fit _) rfl (by decide) (Or.inl rfl) lk_fRX11_322 rfl rfl (gD D_X11_cut_0 18 rfl) (fun s59 es59 => ?_)
    replace hw := hw s59 es59
    refine v_iload_n X 0 rfl (gD D_X11_cut_0 19 rfl) rfl ?_
    refine v_if_ne X 47 (gD D_X11_cut_0 20 rfl) (by decide) (fun c60 => ?_) (fun c60 => ?_)
    · replace hw := hw.1 c60
      refine v_iload_n X 0 rfl (gD D_X11_cut_0 25 rfl) rfl ?_
      exact v_iret X hr hw (gD D_X11_cut_0 26 rfl)
    · replace hw := hw.2 c60
      refine v_aload_n X 2 rfl (gD D_X11_cut_0 21 rfl) rfl ?_
      refine v_getR X RX2 TX2 6 3 2 (by decide) rfl gin2 5 205 RX2 (Or.inl rfl) 3 11 rfl rfl rfl (by decide) lk_fRX11_418 (gD D_X11_cut_0 22 rfl) (fun o61 eo61 => ?_)
      replace hw := hw o61 eo61
      refine v_iconst X 3 (gD D_X11_cut_0 23 rfl) (by decide) ?_
      obtain ⟨a62, rfl, hw⟩ := hw
      refine v_putI X RX10 TX10 7 11 10 (by decide) rfl gin10 5 1005 tyX10 tyX10_ok nmX10 RX10 (Or.inl rfl) 0 rfl .int (int_fit _) rfl (by decide) (Or.inl rfl) lk_fRX11_292 rfl rfl (gD D_X11_cut_0 24 rfl) (fun s63 es63 => ?_)
      replace hw := hw s63 es63
      refine v_iload_n X 0 rfl (gD D_X11_cut_0 25 rfl) rfl ?_
      exact v_iret X hr hw (gD D_X11_cut_0 26 rfl)
set_option maxRecDepth 100000 in
set_option maxHeartbeats 4000000 in
theorem t_X11_fillBoxes_42 {p : Program} {l : Launch} {e : Env} {s : State} {m : MethodId} {args : Array Value} {below : List Frame} {meth : Method} {c : Code} {G : GX} {σ0 : St} {mc ms : Nat} {Q : St → Prop} (X : VC p l (rmD 2 mc ms) s m args meth c G 2 mc ms 6 RX11 cX11_fillBoxes) (hr : meth.sig.returnType = none) (hin : meth.name = yX11_fillBoxes.name) (htr : l.stackTraces = false) {K6 : Nat → Nat → Int32 → Int32 → Int32 → St → Prop} (hK6 : ∀ (a0 : Nat) (a1 : Nat) (x3 : Int32) (x4 : Int32) (x5 : Int32) (σ : St), K6 a0 a1 x3 x4 x5 σ → V p l e (rmD 2 mc ms) s m args below meth c (MQ below (va_Qv Q (gB G 1 σ0) (GA G)) args s mc ms (GA G)) G 1 σ0 mc ms 6 σ 0 0 [(some a0, 12), (some a1, 4)] 6 [(0, va_rf (some a0)), (1, va_rf (some a1)), (3, .int x3), (4, .int x4), (5, .int x5)] []) : ∀ (f : Nat) (a0 : Nat) (a1 : Nat) (x3 : Int32) (x4 : Int32) (x5 : Int32) (σ : St), w_X11_fillBoxes_42 Q K6 f a0 a1 x3 x4 x5 σ → V p l e (rmD 2 mc ms) s m args below meth c (MQ below (va_Qv Q (gB G 1 σ0) (GA G)) args s mc ms (GA G)) G 1 σ0 mc ms 6 σ 0 0 [(some a0, 12), (some a1, 4)] 42 [(0, va_rf (some a0)), (1, va_rf (some a1)), (3, .int x3), (4, .int x4), (5, .int x5)] [] := by
  intro f
  induction f with
  | zero => intro a0 a1 x3 x4 x5 σ hw; exact hw.elim
  | succ f ih =>
    intro a0 a1 x3 x4 x5 σ hw
    unfold w_X11_fillBoxes_42 at hw
    refine v_iload X 3 rfl (gD D_X11_fillBoxes_0 20 rfl) ?_
    refine v_if_le X 71 (gD D_X11_fillBoxes_0 21 rfl) (by decide) (fun c54 => ?_) (fun c54 => ?_)
    · replace hw := hw.1 c54
      refine v_iinc X (x5 + 1) 4 rfl [(5, .int (x5 + 1)), (0, va_rf (some a0)), (1, va_rf (some a1)), (3, .int x3), (4, .int x4)] (gD D_X11_fillBoxes_0 34 rfl) rfl (by decide) rfl ?_
      refine v_goto X 6 (gD D_X11_fillBoxes_0 35 rfl) (by decide) ?_
      exact v_sub [0, 1] [1, 2, 3, 4, 0] rfl rfl (hK6 a0 a1 x3 x4 (x5 + 1) σ hw)
    · replace hw := hw.2 c54
      refine v_aload_n X 0 rfl (gD D_X11_fillBoxes_0 22 rfl) rfl ?_
      refine v_iload X 4 rfl (gD D_X11_fillBoxes_0 23 rfl) ?_
      refine v_aload_n X 1 rfl (gD D_X11_fillBoxes_0 24 rfl) rfl ?_
      refine v_iload_n X 2 rfl (gD D_X11_fillBoxes_0 25 rfl) rfl ?_
      refine v_callVi X (As := [.int x5, va_rf (some a1), .int x3]) (rest := []) (nA := 3) 0 0 0 0 (fun ht => c_X11_fitsIntoBox htr (ht.sub [0, 1] rfl) hw) (Or.inl rfl) 0 (κ := 12) rfl (by decide) (rfl : gCl[11]? = some (RX11, TX11, 19)) lk_vRX11_528 (by decide +kernel) rfl rfl (by decide) (by decide) (by decide) rfl rfl (gD D_X11_fillBoxes_0 26 rfl) (fun x55 s56 hq _ _ => ?_)
      replace hw := hq
      clear hq
      refine v_if_eq X 71 (gD D_X11_fillBoxes_0 27 rfl) (by decide) (fun c57 => ?_) (fun c57 => ?_)
      · replace hw := hw.1 c57
        refine v_iinc X (x5 + 1) 4 rfl [(5, .int (x5 + 1)), (0, va_rf (some a0)), (1, va_rf (some a1)), (3, .int x3), (4, .int x4)] (gD D_X11_fillBoxes_0 34 rfl) rfl (by decide) rfl ?_
        refine v_goto X 6 (gD D_X11_fillBoxes_0 35 rfl) (by decide) ?_
        exact v_sub [0, 1] [1, 2, 3, 4, 0] rfl rfl (hK6 a0 a1 x3 x4 (x5 + 1) s56 hw)
      · replace hw := hw.2 c57
        refine v_aload_n X 0 rfl (gD D_X11_fillBoxes_0 28 rfl) rfl ?_
        refine v_iload X 4 rfl (gD D_X11_fillBoxes_0 29 rfl) ?_
        refine v_aload_n X 1 rfl (gD D_X11_fillBoxes_0 30 rfl) rfl ?_
        refine v_callVv X (As := [.int x5, va_rf (some a1)]) (rest := []) (nA := 2) 0 0 0 0 (fun ht => c_X11_putIntoBox htr (ht.sub [0, 1] rfl) hw) (Or.inl rfl) 0 (κ := 12) rfl (by decide) (rfl : gCl[11]? = some (RX11, TX11, 19)) lk_vRX11_524 (by decide +kernel) rfl rfl (by decide) (by decide) (by decide) rfl rfl (gD D_X11_fillBoxes_0 31 rfl) (fun s59 hq _ _ => ?_)
        replace hw := hq
        clear hq
        refine v_iinc X (x4 + (-1)) 3 rfl [(4, .int (x4 + (-1))), (0, va_rf (some a0)), (1, va_rf (some a1)), (3, .int x3), (5, .int x5)] (gD D_X11_fillBoxes_0 32 rfl) rfl (by decide) rfl ?_
        refine v_goto X 42 (gD D_X11_fillBoxes_0 33 rfl) (by decide) ?_
        exact v_sub [0, 1] [1, 2, 3, 0, 4] rfl rfl (ih a0 a1 x3 (x4 + (-1)) x5 s59 hw)
set_option maxRecDepth 100000 in
set_option maxHeartbeats 4000000 in
theorem t_X11_fillBoxes_6 {p : Program} {l : Launch} {e : Env} {s : State} {m : MethodId} {args : Array Value} {below : List Frame} {meth : Method} {c : Code} {G : GX} {σ0 : St} {mc ms : Nat} {Q : St → Prop} (X : VC p l (rmD 2 mc ms) s m args meth c G 2 mc ms 6 RX11 cX11_fillBoxes) (hr : meth.sig.returnType = none) (hin : meth.name = yX11_fillBoxes.name) (htr : l.stackTraces = false) : ∀ (f : Nat) (a0 : Nat) (a1 : Nat) (x3 : Int32) (x4 : Int32) (x5 : Int32) (σ : St), w_X11_fillBoxes_6 Q  f a0 a1 x3 x4 x5 σ → V p l e (rmD 2 mc ms) s m args below meth c (MQ below (va_Qv Q (gB G 1 σ0) (GA G)) args s mc ms (GA G)) G 1 σ0 mc ms 6 σ 0 0 [(some a0, 12), (some a1, 4)] 6 [(0, va_rf (some a0)), (1, va_rf (some a1)), (3, .int x3), (4, .int x4), (5, .int x5)] [] := by
  intro f
  induction f with
  | zero => intro a0 a1 x3 x4 x5 σ hw; exact hw.elim
  | succ f ih =>
    intro a0 a1 x3 x4 x5 σ hw
    unfold w_X11_fillBoxes_6 at hw
    refine v_iload X 4 rfl (gD D_X11_fillBoxes_0 4 rfl) ?_
    refine v_sipush X 297 (gD D_X11_fillBoxes_0 5 rfl) (by decide) ?_
    refine v_icmp_ge X 77 (gD D_X11_fillBoxes_0 6 rfl) (by decide) (fun c51 => ?_) (fun c51 => ?_)
    · replace hw := hw.1 c51
      exact v_vret X hr hw (gD D_X11_fillBoxes_0 36 rfl)
    · replace hw := hw.2 c51
      refine v_iload X 3 rfl (gD D_X11_fillBoxes_0 7 rfl) ?_
      refine v_if_le X 77 (gD D_X11_fillBoxes_0 8 rfl) (by decide) (fun c52 => ?_) (fun c52 => ?_)
      · replace hw := hw.1 c52
        exact v_vret X hr hw (gD D_X11_fillBoxes_0 36 rfl)
      · replace hw := hw.2 c52
        refine v_iload X 4 rfl (gD D_X11_fillBoxes_0 9 rfl) ?_
        refine v_aload_n X 0 rfl (gD D_X11_fillBoxes_0 10 rfl) rfl ?_
        refine v_getI X RX11 TX11 19 12 11 (by decide) rfl gin11 14 1114 RX11 (Or.inl rfl) 0 rfl rfl (by decide) lk_fRX11_352 (gD D_X11_fillBoxes_0 11 rfl) ?_
        refine v_icmp_ne X 42 (gD D_X11_fillBoxes_0 12 rfl) (by decide) (fun c53 => ?_) (fun c53 => ?_)
        · replace hw := hw.1 c53
          obtain ⟨f60, hw⟩ := hw
          exact v_sub [0, 1] [0, 1, 2, 3, 4] rfl rfl (t_X11_fillBoxes_42 X hr hin htr ih f60 a0 a1 x3 x4 x5 σ hw)
        · replace hw := hw.2 c53
          refine v_aload_n X 0 rfl (gD D_X11_fillBoxes_0 13 rfl) rfl ?_
          refine v_callVv X (As := []) (rest := []) (nA := 0) 0 0 0 0 (fun ht => c_X11_openBox htr (ht.sub [0] rfl) hw) (Or.inl rfl) 0 (κ := 12) rfl (by decide) (rfl : gCl[11]? = some (RX11, TX11, 19)) lk_vRX11_521 (by decide +kernel) rfl rfl (by decide) (by decide) (by decide) rfl rfl (gD D_X11_fillBoxes_0 14 rfl) (fun s62 hq _ _ => ?_)
          replace hw := hq
          clear hq
          refine v_aload_n X 0 rfl (gD D_X11_fillBoxes_0 15 rfl) rfl ?_
          refine v_iload X 4 rfl (gD D_X11_fillBoxes_0 16 rfl) ?_
          refine v_aload_n X 1 rfl (gD D_X11_fillBoxes_0 17 rfl) rfl ?_
          refine v_callVv X (As := [.int x5, va_rf (some a1)]) (rest := []) (nA := 2) 0 0 0 0 (fun ht => c_X11_putIntoBox htr (ht.sub [0, 1] rfl) hw) (Or.inl rfl) 0 (κ := 12) rfl (by decide) (rfl : gCl[11]? = some (RX11, TX11, 19)) lk_vRX11_524 (by decide +kernel) rfl rfl (by decide) (by decide) (by decide) rfl rfl (gD D_X11_fillBoxes_0 18 rfl) (fun s64 hq _ _ => ?_)
          replace hw := hq
          clear hq
          refine v_iinc X (x4 + (-1)) 3 rfl [(4, .int (x4 + (-1))), (0, va_rf (some a0)), (1, va_rf (some a1)), (3, .int x3), (5, .int x5)] (gD D_X11_fillBoxes_0 19 rfl) rfl (by decide) rfl ?_
          obtain ⟨f65, hw⟩ := hw
          exact v_sub [0, 1] [1, 2, 3, 0, 4] rfl rfl (t_X11_fillBoxes_42 X hr hin htr ih f65 a0 a1 x3 (x4 + (-1)) x5 s64 hw)
set_option maxRecDepth 100000 in
set_option maxHeartbeats 4000000 in
theorem c_X11_fillBoxes {l : Launch} {G : GX} (htr : l.stackTraces = false) {σ : St} {a0 : Nat} {a1 : Nat} {x2 : Int32} {x3 : Int32} {Q : St → Prop} (ht : tvOk σ [(some a0, 12), (some a1, 4)]) (hw : w_X11_fillBoxes a0 a1 x2 x3 σ Q) : MV l G 1 σ yX11_fillBoxes cX11_fillBoxes 6 2 0 0 [va_rf (some a0), va_rf (some a1), .int x2, .int x3] Q := by
  unfold w_X11_fillBoxes at hw
  refine m_start RX11 (by decide) htr ht (Nat.le_of_ble_eq_true rfl) rfl (lv := [(0, va_rf (some a0)), (1, va_rf (some a1)), (2, .int x2), (3, .int x3)]) (d := 1) (fun p e s m args below meth c X hr hin => ?_)
  refine v_iload_n X 2 rfl (gD D_X11_fillBoxes_0 0 rfl) rfl ?_
  refine v_istore X [(4, .int x2), (0, va_rf (some a0)), (1, va_rf (some a1)), (2, .int x2), (3, .int x3)] (gD D_X11_fillBoxes_0 1 rfl) (by decide) rfl ?_
  refine v_iconst X 0 (gD D_X11_fillBoxes_0 2 rfl) (by decide) ?_
  refine v_istore X [(5, .int 0), (4, .int x2), (0, va_rf (some a0)), (1, va_rf (some a1)), (2, .int x2), (3, .int x3)] (gD D_X11_fillBoxes_0 3 rfl) (by decide) rfl ?_
  obtain ⟨f66, hw⟩ := hw
  exact v_sub [0, 1] [2, 3, 5, 1, 0] rfl rfl (t_X11_fillBoxes_6 X hr hin htr  f66 a0 a1 x3 x2 0 σ hw)
set_option maxRecDepth 100000 in
set_option maxHeartbeats 4000000 in
theorem c_X11_find {l : Launch} {G : GX} (htr : l.stackTraces = false) {k n : Nat} {σ : St} {a0 : Nat} {x1 : Int32} {x2 : Int32} {x3 : Int32} {Q : Int32 → St → Prop} {Y : Nat → St → Prop} (ht : tvOk σ [(some a0, 12)]) (hw : w_X11_find k n a0 x1 x2 x3 σ Q Y) : MIX l G 1 σ yX11_find cX11_find 4 (some .int) 2 k n [va_rf (some a0), .int x1, .int x2, .int x3] Q Y := by
  unfold w_X11_find at hw
  refine m_startX RX11 (by decide) htr ht (Nat.le_of_ble_eq_true rfl) rfl (lv := [(0, va_rf (some a0)), (1, .int x1), (2, .int x2), (3, .int x3)]) (d := 1) (fun p e s m args below meth c X hr hin hex => ?_)
  refine v_iload_n X 1 rfl (gD D_X11_find_0 0 rfl) rfl ?_
  refine v_callSi X (As := [.int x1]) (rest := []) (nA := 1) 0 0 k n (fun ht => c_X11_isSlot htr (ht.sub [] rfl) hw) (Or.inl rfl) lk_sRX11_79 (by decide +kernel) rfl rfl (by decide) (by decide) (by decide) rfl rfl (gD D_X11_find_0 1 rfl) (fun x51 s52 hq _ _ => ?_)
  replace hw := hq
  clear hq
  refine v_if_eq X 15 (gD D_X11_find_0 2 rfl) (by decide) (fun c53 => ?_) (fun c53 => ?_)
  · replace hw := hw.1 c53
    exact v_throw X hex 1 (by decide +kernel) lk_xRX11_83 lk_xi_1 lk_xaRX11_85 lk_xgRX11_83_85 (gD D_X11_find_0 7 rfl) (gD D_X11_find_0 8 rfl) (gD D_X11_find_0 9 rfl) (gD D_X11_find_0 10 rfl) (by decide) hw
  · replace hw := hw.2 c53
    refine v_aload_n X 0 rfl (gD D_X11_find_0 3 rfl) rfl ?_
    refine v_iload_n X 2 rfl (gD D_X11_find_0 4 rfl) rfl ?_
    refine v_callVi X (As := [.int x2]) (rest := []) (nA := 1) 0 0 k n (fun ht => c_X11_isLot htr (ht.sub [0] rfl) hw) (Or.inl rfl) 0 (κ := 12) rfl (by decide) (rfl : gCl[11]? = some (RX11, TX11, 19)) lk_vRX11_170 (by decide +kernel) rfl rfl (by decide) (by decide) (by decide) rfl rfl (gD D_X11_find_0 5 rfl) (fun x54 s55 hq _ _ => ?_)
    replace hw := hq
    clear hq
    refine v_if_ne X 23 (gD D_X11_find_0 6 rfl) (by decide) (fun c56 => ?_) (fun c56 => ?_)
    · replace hw := hw.1 c56
      refine v_iload_n X 3 rfl (gD D_X11_find_0 11 rfl) rfl ?_
      refine v_iconst X 1 (gD D_X11_find_0 12 rfl) (by decide) ?_
      refine v_bipush X 99 (gD D_X11_find_0 13 rfl) (by decide) ?_
      refine v_callSi X (As := [.int x3, .int 1, .int 99]) (rest := []) (nA := 3) 0 0 k n (fun ht => c_X11_isWithin htr (ht.sub [] rfl) hw) (Or.inl rfl) lk_sRX11_86 (by decide +kernel) rfl rfl (by decide) (by decide) (by decide) rfl rfl (gD D_X11_find_0 14 rfl) (fun x57 s58 hq _ _ => ?_)
      replace hw := hq
      clear hq
      refine v_if_ne X 41 (gD D_X11_find_0 15 rfl) (by decide) (fun c59 => ?_) (fun c59 => ?_)
      · replace hw := hw.1 c59
        refine v_aload_n X 0 rfl (gD D_X11_find_0 20 rfl) rfl ?_
        refine v_getR X RX11 TX11 19 12 11 (by decide) rfl gin11 9 1109 RX11 (Or.inl rfl) 0 1 rfl rfl rfl (by decide) lk_fRX11_52 (gD D_X11_find_0 21 rfl) (fun o60 eo60 => ?_)
        replace hw := hw o60 eo60
        obtain ⟨a61, rfl, hw⟩ := hw
        refine v_getR X RX0 TX0 8 1 0 (by decide) rfl gin0 2 2 RX0 (Or.inl rfl) 0 2 rfl rfl rfl (by decide) lk_fRX11_326 (gD D_X11_find_0 22 rfl) (fun o62 eo62 => ?_)
        replace hw := hw o62 eo62
        refine v_iload_n X 1 rfl (gD D_X11_find_0 23 rfl) rfl ?_
        refine v_iload_n X 2 rfl (gD D_X11_find_0 24 rfl) rfl ?_
        refine v_iload_n X 3 rfl (gD D_X11_find_0 25 rfl) rfl ?_
        obtain ⟨a63, rfl, hw⟩ := hw
        refine v_callVv X (As := [.int x1, .int x2, .int x3]) (rest := []) (nA := 3) 0 0 k n (fun ht => c_X1_add htr (ht.sub [0] rfl) hw) (Or.inl rfl) 0 (κ := 2) rfl (by decide) (rfl : gCl[1]? = some (RX1, TX1, 2)) lk_vRX11_202 (by decide +kernel) rfl rfl (by decide) (by decide) (by decide) rfl rfl (gD D_X11_find_0 26 rfl) (fun s65 hq _ _ => ?_)
        replace hw := hq
        clear hq
        refine v_aload_n X 0 rfl (gD D_X11_find_0 27 rfl) rfl ?_
        refine v_getR X RX11 TX11 19 12 11 (by decide) rfl gin11 9 1109 RX11 (Or.inl rfl) 2 1 rfl rfl rfl (by decide) lk_fRX11_52 (gD D_X11_find_0 28 rfl) (fun o66 eo66 => ?_)
        replace hw := hw o66 eo66
        obtain ⟨a67, rfl, hw⟩ := hw
        refine v_getR X RX0 TX0 8 1 0 (by decide) rfl gin0 2 2 RX0 (Or.inl rfl) 0 2 rfl rfl rfl (by decide) lk_fRX11_326 (gD D_X11_find_0 29 rfl) (fun o68 eo68 => ?_)
        replace hw := hw o68 eo68
        refine v_iload_n X 1 rfl (gD D_X11_find_0 30 rfl) rfl ?_
        refine v_iload_n X 2 rfl (gD D_X11_find_0 31 rfl) rfl ?_
        obtain ⟨a69, rfl, hw⟩ := hw
        refine v_callVi X (As := [.int x1, .int x2]) (rest := []) (nA := 2) 0 0 k n (fun ht => c_X1_at htr (ht.sub [0] rfl) hw) (Or.inl rfl) 0 (κ := 2) rfl (by decide) (rfl : gCl[1]? = some (RX1, TX1, 2)) lk_vRX11_176 (by decide +kernel) rfl rfl (by decide) (by decide) (by decide) rfl rfl (gD D_X11_find_0 32 rfl) (fun x70 s71 hq _ _ => ?_)
        replace hw := hq
        clear hq
        exact v_X (v_iret X hr hw (gD D_X11_find_0 33 rfl))
      · replace hw := hw.2 c59
        exact v_throw X hex 2 (by decide +kernel) lk_xRX11_90 lk_xi_2 lk_xaRX11_92 lk_xgRX11_90_92 (gD D_X11_find_0 16 rfl) (gD D_X11_find_0 17 rfl) (gD D_X11_find_0 18 rfl) (gD D_X11_find_0 19 rfl) (by decide) hw
    · replace hw := hw.2 c56
      exact v_throw X hex 1 (by decide +kernel) lk_xRX11_83 lk_xi_1 lk_xaRX11_85 lk_xgRX11_83_85 (gD D_X11_find_0 7 rfl) (gD D_X11_find_0 8 rfl) (gD D_X11_find_0 9 rfl) (gD D_X11_find_0 10 rfl) (by decide) hw
set_option maxRecDepth 100000 in
set_option maxHeartbeats 4000000 in
theorem c_X11_free {l : Launch} {G : GX} (htr : l.stackTraces = false) {k n : Nat} {σ : St} {a0 : Nat} {x1 : Int32} {x2 : Int32} {Q : Int32 → St → Prop} {Y : Nat → St → Prop} (ht : tvOk σ [(some a0, 12)]) (hw : w_X11_free k n a0 x1 x2 σ Q Y) : MIX l G 1 σ yX11_free cX11_free 3 (some .int) 2 k n [va_rf (some a0), .int x1, .int x2] Q Y := by
  unfold w_X11_free at hw
  refine m_startX RX11 (by decide) htr ht (Nat.le_of_ble_eq_true rfl) rfl (lv := [(0, va_rf (some a0)), (1, .int x1), (2, .int x2)]) (d := 1) (fun p e s m args below meth c X hr hin hex => ?_)
  refine v_iload_n X 1 rfl (gD D_X11_free_0 0 rfl) rfl ?_
  refine v_iconst X 0 (gD D_X11_free_0 1 rfl) (by decide) ?_
  refine v_bipush X 18 (gD D_X11_free_0 2 rfl) (by decide) ?_
  refine v_callSi X (As := [.int x1, .int 0, .int 18]) (rest := []) (nA := 3) 0 0 k n (fun ht => c_X11_isWithin htr (ht.sub [] rfl) hw) (Or.inl rfl) lk_sRX11_86 (by decide +kernel) rfl rfl (by decide) (by decide) (by decide) rfl rfl (gD D_X11_free_0 3 rfl) (fun x51 s52 hq _ _ => ?_)
  replace hw := hq
  clear hq
  refine v_if_eq X 18 (gD D_X11_free_0 4 rfl) (by decide) (fun c53 => ?_) (fun c53 => ?_)
  · replace hw := hw.1 c53
    exact v_throw X hex 1 (by decide +kernel) lk_xRX11_83 lk_xi_1 lk_xaRX11_85 lk_xgRX11_83_85 (gD D_X11_free_0 9 rfl) (gD D_X11_free_0 10 rfl) (gD D_X11_free_0 11 rfl) (gD D_X11_free_0 12 rfl) (by decide) hw
  · replace hw := hw.2 c53
    refine v_aload_n X 0 rfl (gD D_X11_free_0 5 rfl) rfl ?_
    refine v_iload_n X 2 rfl (gD D_X11_free_0 6 rfl) rfl ?_
    refine v_callVi X (As := [.int x2]) (rest := []) (nA := 1) 0 0 k n (fun ht => c_X11_isLot htr (ht.sub [0] rfl) hw) (Or.inl rfl) 0 (κ := 12) rfl (by decide) (rfl : gCl[11]? = some (RX11, TX11, 19)) lk_vRX11_170 (by decide +kernel) rfl rfl (by decide) (by decide) (by decide) rfl rfl (gD D_X11_free_0 7 rfl) (fun x54 s55 hq _ _ => ?_)
    replace hw := hq
    clear hq
    refine v_if_ne X 26 (gD D_X11_free_0 8 rfl) (by decide) (fun c56 => ?_) (fun c56 => ?_)
    · replace hw := hw.1 c56
      refine v_aload_n X 0 rfl (gD D_X11_free_0 13 rfl) rfl ?_
      refine v_getR X RX11 TX11 19 12 11 (by decide) rfl gin11 9 1109 RX11 (Or.inl rfl) 0 1 rfl rfl rfl (by decide) lk_fRX11_52 (gD D_X11_free_0 14 rfl) (fun o57 eo57 => ?_)
      replace hw := hw o57 eo57
      refine v_iload_n X 1 rfl (gD D_X11_free_0 15 rfl) rfl ?_
      refine v_iload_n X 2 rfl (gD D_X11_free_0 16 rfl) rfl ?_
      obtain ⟨a58, rfl, hw⟩ := hw
      refine v_callVi X (As := [.int x1, .int x2]) (rest := []) (nA := 2) 0 0 k n (fun ht => c_X0_freePieces htr (ht.sub [0] rfl) hw) (Or.inl rfl) 0 (κ := 1) rfl (by decide) (rfl : gCl[0]? = some (RX0, TX0, 8)) lk_vRX11_183 (by decide +kernel) rfl rfl (by decide) (by decide) (by decide) rfl rfl (gD D_X11_free_0 17 rfl) (fun x59 s60 hq _ _ => ?_)
      replace hw := hq
      clear hq
      exact v_X (v_iret X hr hw (gD D_X11_free_0 18 rfl))
    · replace hw := hw.2 c56
      exact v_throw X hex 1 (by decide +kernel) lk_xRX11_83 lk_xi_1 lk_xaRX11_85 lk_xgRX11_83_85 (gD D_X11_free_0 9 rfl) (gD D_X11_free_0 10 rfl) (gD D_X11_free_0 11 rfl) (gD D_X11_free_0 12 rfl) (by decide) hw
set_option maxRecDepth 100000 in
set_option maxHeartbeats 4000000 in
theorem t_X11_isBarredIn_12 {p : Program} {l : Launch} {e : Env} {s : State} {m : MethodId} {args : Array Value} {below : List Frame} {meth : Method} {c : Code} {G : GX} {σ0 : St} {mc ms : Nat} {Q : Int32 → St → Prop} (X : VC p l (rmD 2 mc ms) s m args meth c G 2 mc ms 7 RX11 cX11_isBarredIn) (hr : meth.sig.returnType = (some .boolean)) (hin : meth.name = yX11_isBarredIn.name) (htr : l.stackTraces = false) : ∀ (f : Nat) (a0 : Nat) (x1 : Int32) (a2 : Nat) (o3 : Option Nat) (x4 : Int32) (x5 : Int32) (σ : St), w_X11_isBarredIn_12 Q  f a0 x1 a2 o3 x4 x5 σ → V p l e (rmD 2 mc ms) s m args below meth c (MQ below (va_Qi Q (gB G 1 σ0) (GA G)) args s mc ms (GA G)) G 1 σ0 mc ms 7 σ 0 0 [(some a0, 12), (some a2, 4), (o3, 25)] 12 [(0, va_rf (some a0)), (1, .int x1), (2, va_rf (some a2)), (3, va_rf o3), (4, .int x4), (5, .int x5)] [] := by
  intro f
  induction f with
  | zero => intro a0 x1 a2 o3 x4 x5 σ hw; exact hw.elim
  | succ f ih =>
    intro a0 x1 a2 o3 x4 x5 σ hw
    unfold w_X11_isBarredIn_12 at hw
    refine v_iload X 5 rfl (gD D_X11_isBarredIn_0 8 rfl) ?_
    refine v_iload X 4 rfl (gD D_X11_isBarredIn_0 9 rfl) ?_
    refine v_icmp_ge X 74 (gD D_X11_isBarredIn_0 10 rfl) (by decide) (fun c54 => ?_) (fun c54 => ?_)
    · replace hw := hw.1 c54
      refine v_iconst X 0 (gD D_X11_isBarredIn_0 37 rfl) (by decide) ?_
      exact v_zret X hr (by decide) hw (gD D_X11_isBarredIn_0 38 rfl)
    · replace hw := hw.2 c54
      refine v_aload_n X 3 rfl (gD D_X11_isBarredIn_0 11 rfl) rfl ?_
      refine v_iload X 5 rfl (gD D_X11_isBarredIn_0 12 rfl) ?_
      obtain ⟨a55, rfl, hw⟩ := hw
      obtain ⟨h56, hw⟩ := hw
      refine v_aald X 2 4 rfl (by decide) h56 (gD D_X11_isBarredIn_0 13 rfl) (fun o57 eo57 => ?_)
      replace hw := hw o57 eo57
      refine v_astore X [(6, va_rf o57), (0, va_rf (some a0)), (1, .int x1), (2, va_rf (some a2)), (3, va_rf (some a55)), (4, .int x4), (5, .int x5)] (gD D_X11_isBarredIn_0 14 rfl) (by decide) rfl ?_
      refine v_aload X 0 rfl (gD D_X11_isBarredIn_0 15 rfl) ?_
      refine v_aload_n X 3 rfl (gD D_X11_isBarredIn_0 16 rfl) rfl ?_
      refine v_acmp_eq X 68 (gD D_X11_isBarredIn_0 17 rfl) (by decide) (fun c58 => ?_) (fun c58 => ?_)
      · replace hw := hw.1 c58
        refine v_iinc X (x5 + 1) 6 rfl [(5, .int (x5 + 1)), (6, va_rf o57), (0, va_rf (some a0)), (1, .int x1), (2, va_rf (some a2)), (3, va_rf (some a55)), (4, .int x4)] (gD D_X11_isBarredIn_0 35 rfl) rfl (by decide) rfl ?_
        refine v_goto X 12 (gD D_X11_isBarredIn_0 36 rfl) (by decide) ?_
        exact v_sub [1, 2, 3] [2, 3, 4, 5, 6, 0] rfl rfl (ih a0 x1 a2 (some a55) x4 (x5 + 1) σ hw)
      · replace hw := hw.2 c58
        refine v_aload_n X 1 rfl (gD D_X11_isBarredIn_0 18 rfl) rfl ?_
        refine v_getI X RX11 TX11 19 12 11 (by decide) rfl gin11 15 1115 RX11 (Or.inl rfl) 1 rfl rfl (by decide) lk_fRX11_139 (gD D_X11_isBarredIn_0 19 rfl) ?_
        refine v_aload X 0 rfl (gD D_X11_isBarredIn_0 20 rfl) ?_
        obtain ⟨a59, rfl, hw⟩ := hw
        refine v_getI X RX3 TX3 6 4 3 (by decide) rfl gin3 4 304 RX3 (Or.inl rfl) 0 rfl rfl (by decide) lk_fRX11_133 (gD D_X11_isBarredIn_0 21 rfl) ?_
        refine v_aload_n X 3 rfl (gD D_X11_isBarredIn_0 22 rfl) rfl ?_
        refine v_getI X RX3 TX3 6 4 3 (by decide) rfl gin3 4 304 RX3 (Or.inl rfl) 2 rfl rfl (by decide) lk_fRX11_133 (gD D_X11_isBarredIn_0 23 rfl) ?_
        refine v_callSi X (As := [.int (sI σ 1115 a0), .int (sI σ 304 a59), .int (sI σ 304 a2)]) (rest := []) (nA := 3) 0 0 0 0 (fun ht => c_X11_isBarred htr (ht.sub [] rfl) hw) (Or.inl rfl) lk_sRX11_142 (by decide +kernel) rfl rfl (by decide) (by decide) (by decide) rfl rfl (gD D_X11_isBarredIn_0 24 rfl) (fun x60 s61 hq _ _ => ?_)
        replace hw := hq
        clear hq
        refine v_if_eq X 68 (gD D_X11_isBarredIn_0 25 rfl) (by decide) (fun c62 => ?_) (fun c62 => ?_)
        · replace hw := hw.1 c62
          refine v_iinc X (x5 + 1) 6 rfl [(5, .int (x5 + 1)), (6, va_rf (some a59)), (0, va_rf (some a0)), (1, .int x1), (2, va_rf (some a2)), (3, va_rf (some a55)), (4, .int x4)] (gD D_X11_isBarredIn_0 35 rfl) rfl (by decide) rfl ?_
          refine v_goto X 12 (gD D_X11_isBarredIn_0 36 rfl) (by decide) ?_
          exact v_sub [1, 2, 3] [2, 3, 4, 5, 6, 0] rfl rfl (ih a0 x1 a2 (some a55) x4 (x5 + 1) s61 hw)
        · replace hw := hw.2 c62
          refine v_aload_n X 1 rfl (gD D_X11_isBarredIn_0 26 rfl) rfl ?_
          refine v_getR X RX11 TX11 19 12 11 (by decide) rfl gin11 9 1109 RX11 (Or.inl rfl) 1 1 rfl rfl rfl (by decide) lk_fRX11_52 (gD D_X11_isBarredIn_0 27 rfl) (fun o63 eo63 => ?_)
          replace hw := hw o63 eo63
          refine v_iload_n X 2 rfl (gD D_X11_isBarredIn_0 28 rfl) rfl ?_
          refine v_aload X 0 rfl (gD D_X11_isBarredIn_0 29 rfl) ?_
          refine v_getI X RX3 TX3 6 4 3 (by decide) rfl gin3 0 300 RX3 (Or.inl rfl) 1 rfl rfl (by decide) lk_fRX11_378 (gD D_X11_isBarredIn_0 30 rfl) ?_
          obtain ⟨a64, rfl, hw⟩ := hw
          refine v_callVi X (As := [.int x1, .int (sI s61 300 a59)]) (rest := []) (nA := 2) 0 0 0 0 (fun ht => c_X0_hasOrAwaits htr (ht.sub [0] rfl) hw) (Or.inl rfl) 0 (κ := 1) rfl (by decide) (rfl : gCl[0]? = some (RX0, TX0, 8)) lk_vRX11_371 (by decide +kernel) rfl rfl (by decide) (by decide) (by decide) rfl rfl (gD D_X11_isBarredIn_0 31 rfl) (fun x65 s66 hq _ _ => ?_)
          replace hw := hq
          clear hq
          refine v_if_eq X 68 (gD D_X11_isBarredIn_0 32 rfl) (by decide) (fun c67 => ?_) (fun c67 => ?_)
          · replace hw := hw.1 c67
            refine v_iinc X (x5 + 1) 6 rfl [(5, .int (x5 + 1)), (6, va_rf (some a59)), (0, va_rf (some a0)), (1, .int x1), (2, va_rf (some a2)), (3, va_rf (some a55)), (4, .int x4)] (gD D_X11_isBarredIn_0 35 rfl) rfl (by decide) rfl ?_
            refine v_goto X 12 (gD D_X11_isBarredIn_0 36 rfl) (by decide) ?_
            exact v_sub [2, 3, 4] [2, 3, 4, 5, 6, 0] rfl rfl (ih a0 x1 a2 (some a55) x4 (x5 + 1) s66 hw)
          · replace hw := hw.2 c67
            refine v_iconst X 1 (gD D_X11_isBarredIn_0 33 rfl) (by decide) ?_
            exact v_zret X hr (by decide) hw (gD D_X11_isBarredIn_0 34 rfl)
set_option maxRecDepth 100000 in
set_option maxHeartbeats 4000000 in
theorem c_X11_isBarredIn {l : Launch} {G : GX} (htr : l.stackTraces = false) {σ : St} {a0 : Nat} {x1 : Int32} {a2 : Nat} {Q : Int32 → St → Prop} (ht : tvOk σ [(some a0, 12), (some a2, 4)]) (hw : w_X11_isBarredIn a0 x1 a2 σ Q) : MI l G 1 σ yX11_isBarredIn cX11_isBarredIn 7 (some .boolean) 2 0 0 [va_rf (some a0), .int x1, va_rf (some a2)] Q := by
  unfold w_X11_isBarredIn at hw
  refine m_start RX11 (by decide) htr ht (Nat.le_of_ble_eq_true rfl) rfl (lv := [(0, va_rf (some a0)), (1, .int x1), (2, va_rf (some a2))]) (d := 1) (fun p e s m args below meth c X hr hin => ?_)
  refine v_aload_n X 0 rfl (gD D_X11_isBarredIn_0 0 rfl) rfl ?_
  refine v_getR X RX11 TX11 19 12 11 (by decide) rfl gin11 1 1101 RX11 (Or.inl rfl) 0 25 rfl rfl rfl (by decide) lk_fRX11_17 (gD D_X11_isBarredIn_0 1 rfl) (fun o51 eo51 => ?_)
  replace hw := hw o51 eo51
  refine v_astore_n X [(3, va_rf o51), (0, va_rf (some a0)), (1, .int x1), (2, va_rf (some a2))] (gD D_X11_isBarredIn_0 2 rfl) rfl (by decide) rfl ?_
  refine v_aload_n X 0 rfl (gD D_X11_isBarredIn_0 3 rfl) rfl ?_
  obtain ⟨a52, rfl, hw⟩ := hw
  refine v_alen X 0 rfl (by decide) (gD D_X11_isBarredIn_0 4 rfl) ?_
  refine v_topi (fun x53 ex53 => ?_)
  replace hw := hw x53 ex53
  refine v_istore X [(4, .int x53), (3, va_rf (some a52)), (0, va_rf (some a0)), (1, .int x1), (2, va_rf (some a2))] (gD D_X11_isBarredIn_0 5 rfl) (by decide) rfl ?_
  refine v_iconst X 0 (gD D_X11_isBarredIn_0 6 rfl) (by decide) ?_
  refine v_istore X [(5, .int 0), (4, .int x53), (3, va_rf (some a52)), (0, va_rf (some a0)), (1, .int x1), (2, va_rf (some a2))] (gD D_X11_isBarredIn_0 7 rfl) (by decide) rfl ?_
  obtain ⟨f68, hw⟩ := hw
  exact v_sub [1, 2, 0] [3, 4, 5, 2, 1, 0] rfl rfl (t_X11_isBarredIn_12 X hr hin htr  f68 a0 x1 a2 (some a52) x53 0 σ hw)
set_option maxRecDepth 100000 in
set_option maxHeartbeats 4000000 in
theorem t_X11_isUsed_2 {p : Program} {l : Launch} {e : Env} {s : State} {m : MethodId} {args : Array Value} {below : List Frame} {meth : Method} {c : Code} {G : GX} {σ0 : St} {mc ms : Nat} {Q : Int32 → St → Prop} (X : VC p l (rmD 2 mc ms) s m args meth c G 2 mc ms 3 RX11 cX11_isUsed) (hr : meth.sig.returnType = (some .boolean)) (hin : meth.name = yX11_isUsed.name) (htr : l.stackTraces = false) : ∀ (f : Nat) (a0 : Nat) (x1 : Int32) (x2 : Int32) (σ : St), w_X11_isUsed_2 Q  f a0 x1 x2 σ → V p l e (rmD 2 mc ms) s m args below meth c (MQ below (va_Qi Q (gB G 1 σ0) (GA G)) args s mc ms (GA G)) G 1 σ0 mc ms 3 σ 0 0 [(some a0, 12)] 2 [(0, va_rf (some a0)), (1, .int x1), (2, .int x2)] [] := by
  intro f
  induction f with
  | zero => intro a0 x1 x2 σ hw; exact hw.elim
  | succ f ih =>
    intro a0 x1 x2 σ hw
    unfold w_X11_isUsed_2 at hw
    refine v_iload_n X 2 rfl (gD D_X11_isUsed_0 2 rfl) rfl ?_
    refine v_bipush X 6 (gD D_X11_isUsed_0 3 rfl) (by decide) ?_
    refine v_icmp_ge X 28 (gD D_X11_isUsed_0 4 rfl) (by decide) (fun c51 => ?_) (fun c51 => ?_)
    · replace hw := hw.1 c51
      refine v_iconst X 0 (gD D_X11_isUsed_0 15 rfl) (by decide) ?_
      exact v_zret X hr (by decide) hw (gD D_X11_isUsed_0 16 rfl)
    · replace hw := hw.2 c51
      refine v_aload_n X 0 rfl (gD D_X11_isUsed_0 5 rfl) rfl ?_
      refine v_getR X RX11 TX11 19 12 11 (by decide) rfl gin11 9 1109 RX11 (Or.inl rfl) 0 1 rfl rfl rfl (by decide) lk_fRX11_52 (gD D_X11_isUsed_0 6 rfl) (fun o52 eo52 => ?_)
      replace hw := hw o52 eo52
      refine v_iload_n X 1 rfl (gD D_X11_isUsed_0 7 rfl) rfl ?_
      refine v_iload_n X 2 rfl (gD D_X11_isUsed_0 8 rfl) rfl ?_
      obtain ⟨a53, rfl, hw⟩ := hw
      refine v_callVi X (As := [.int x1, .int x2]) (rest := []) (nA := 2) 0 0 0 0 (fun ht => c_X0_hasOrAwaits htr (ht.sub [0] rfl) hw) (Or.inl rfl) 0 (κ := 1) rfl (by decide) (rfl : gCl[0]? = some (RX0, TX0, 8)) lk_vRX11_371 (by decide +kernel) rfl rfl (by decide) (by decide) (by decide) rfl rfl (gD D_X11_isUsed_0 9 rfl) (fun x54 s55 hq _ _ => ?_)
      replace hw := hq
      clear hq
      refine v_if_eq X 22 (gD D_X11_isUsed_0 10 rfl) (by decide) (fun c56 => ?_) (fun c56 => ?_)
      · replace hw := hw.1 c56
        refine v_iinc X (x2 + 1) 2 rfl [(2, .int (x2 + 1)), (0, va_rf (some a0)), (1, .int x1)] (gD D_X11_isUsed_0 13 rfl) rfl (by decide) rfl ?_
        refine v_goto X 2 (gD D_X11_isUsed_0 14 rfl) (by decide) ?_
        exact v_sub [1] [1, 2, 0] rfl rfl (ih a0 x1 (x2 + 1) s55 hw)
      · replace hw := hw.2 c56
        refine v_iconst X 1 (gD D_X11_isUsed_0 11 rfl) (by decide) ?_
        exact v_zret X hr (by decide) hw (gD D_X11_isUsed_0 12 rfl)
set_option maxRecDepth 100000 in
set_option maxHeartbeats 4000000 in
theorem c_X11_isUsed {l : Launch} {G : GX} (htr : l.stackTraces = false) {σ : St} {a0 : Nat} {x1 : Int32} {Q : Int32 → St → Prop} (ht : tvOk σ [(some a0, 12)]) (hw : w_X11_isUsed a0 x1 σ Q) : MI l G 1 σ yX11_isUsed cX11_isUsed 3 (some .boolean) 2 0 0 [va_rf (some a0), .int x1] Q := by
  unfold w_X11_isUsed at hw
  refine m_start RX11 (by decide) htr ht (Nat.le_of_ble_eq_true rfl) rfl (lv := [(0, va_rf (some a0)), (1, .int x1)]) (d := 1) (fun p e s m args below meth c X hr hin => ?_)
  refine v_iconst X 0 (gD D_X11_isUsed_0 0 rfl) (by decide) ?_
  refine v_istore_n X [(2, .int 0), (0, va_rf (some a0)), (1, .int x1)] (gD D_X11_isUsed_0 1 rfl) rfl (by decide) rfl ?_
  obtain ⟨f57, hw⟩ := hw
  exact v_sub [0] [1, 2, 0] rfl rfl (t_X11_isUsed_2 X hr hin htr  f57 a0 x1 0 σ hw)
set_option maxRecDepth 100000 in
set_option maxHeartbeats 4000000 in
theorem c_X11_lose {l : Launch} {G : GX} (htr : l.stackTraces = false) {k n : Nat} {σ : St} {a0 : Nat} {x1 : Int32} {x2 : Int32} {x3 : Int32} {Q : Int32 → St → Prop} {Y : Nat → St → Prop} (ht : tvOk σ [(some a0, 12)]) (hw : w_X11_lose k n a0 x1 x2 x3 σ Q Y) : MIX l G 1 σ yX11_lose cX11_lose 4 (some .int) 2 k n [va_rf (some a0), .int x1, .int x2, .int x3] Q Y := by
  unfold w_X11_lose at hw
  refine m_startX RX11 (by decide) htr ht (Nat.le_of_ble_eq_true rfl) rfl (lv := [(0, va_rf (some a0)), (1, .int x1), (2, .int x2), (3, .int x3)]) (d := 1) (fun p e s m args below meth c X hr hin hex => ?_)
  refine v_iload_n X 1 rfl (gD D_X11_lose_0 0 rfl) rfl ?_
  refine v_callSi X (As := [.int x1]) (rest := []) (nA := 1) 0 0 k n (fun ht => c_X11_isSlot htr (ht.sub [] rfl) hw) (Or.inl rfl) lk_sRX11_79 (by decide +kernel) rfl rfl (by decide) (by decide) (by decide) rfl rfl (gD D_X11_lose_0 1 rfl) (fun x51 s52 hq _ _ => ?_)
  replace hw := hq
  clear hq
  refine v_if_eq X 15 (gD D_X11_lose_0 2 rfl) (by decide) (fun c53 => ?_) (fun c53 => ?_)
  · replace hw := hw.1 c53
    exact v_throw X hex 1 (by decide +kernel) lk_xRX11_83 lk_xi_1 lk_xaRX11_85 lk_xgRX11_83_85 (gD D_X11_lose_0 7 rfl) (gD D_X11_lose_0 8 rfl) (gD D_X11_lose_0 9 rfl) (gD D_X11_lose_0 10 rfl) (by decide) hw
  · replace hw := hw.2 c53
    refine v_aload_n X 0 rfl (gD D_X11_lose_0 3 rfl) rfl ?_
    refine v_iload_n X 2 rfl (gD D_X11_lose_0 4 rfl) rfl ?_
    refine v_callVi X (As := [.int x2]) (rest := []) (nA := 1) 0 0 k n (fun ht => c_X11_isLot htr (ht.sub [0] rfl) hw) (Or.inl rfl) 0 (κ := 12) rfl (by decide) (rfl : gCl[11]? = some (RX11, TX11, 19)) lk_vRX11_170 (by decide +kernel) rfl rfl (by decide) (by decide) (by decide) rfl rfl (gD D_X11_lose_0 5 rfl) (fun x54 s55 hq _ _ => ?_)
    replace hw := hq
    clear hq
    refine v_if_ne X 23 (gD D_X11_lose_0 6 rfl) (by decide) (fun c56 => ?_) (fun c56 => ?_)
    · replace hw := hw.1 c56
      refine v_iload_n X 3 rfl (gD D_X11_lose_0 11 rfl) rfl ?_
      refine v_iconst X 1 (gD D_X11_lose_0 12 rfl) (by decide) ?_
      refine v_bipush X 99 (gD D_X11_lose_0 13 rfl) (by decide) ?_
      refine v_callSi X (As := [.int x3, .int 1, .int 99]) (rest := []) (nA := 3) 0 0 k n (fun ht => c_X11_isWithin htr (ht.sub [] rfl) hw) (Or.inl rfl) lk_sRX11_86 (by decide +kernel) rfl rfl (by decide) (by decide) (by decide) rfl rfl (gD D_X11_lose_0 14 rfl) (fun x57 s58 hq _ _ => ?_)
      replace hw := hq
      clear hq
      refine v_if_ne X 41 (gD D_X11_lose_0 15 rfl) (by decide) (fun c59 => ?_) (fun c59 => ?_)
      · replace hw := hw.1 c59
        refine v_aload_n X 0 rfl (gD D_X11_lose_0 20 rfl) rfl ?_
        refine v_getR X RX11 TX11 19 12 11 (by decide) rfl gin11 9 1109 RX11 (Or.inl rfl) 0 1 rfl rfl rfl (by decide) lk_fRX11_52 (gD D_X11_lose_0 21 rfl) (fun o60 eo60 => ?_)
        replace hw := hw o60 eo60
        obtain ⟨a61, rfl, hw⟩ := hw
        refine v_getR X RX0 TX0 8 1 0 (by decide) rfl gin0 2 2 RX0 (Or.inl rfl) 0 2 rfl rfl rfl (by decide) lk_fRX11_326 (gD D_X11_lose_0 22 rfl) (fun o62 eo62 => ?_)
        replace hw := hw o62 eo62
        refine v_iload_n X 1 rfl (gD D_X11_lose_0 23 rfl) rfl ?_
        refine v_iload_n X 2 rfl (gD D_X11_lose_0 24 rfl) rfl ?_
        refine v_iload_n X 3 rfl (gD D_X11_lose_0 25 rfl) rfl ?_
        refine v_aload_n X 0 rfl (gD D_X11_lose_0 26 rfl) rfl ?_
        refine v_getR X RX11 TX11 19 12 11 (by decide) rfl gin11 9 1109 RX11 (Or.inl rfl) 2 1 rfl rfl rfl (by decide) lk_fRX11_52 (gD D_X11_lose_0 27 rfl) (fun o63 eo63 => ?_)
        replace hw := hw o63 eo63
        obtain ⟨a64, rfl, hw⟩ := hw
        refine v_getR X RX0 TX0 8 1 0 (by decide) rfl gin0 2 2 RX0 (Or.inl rfl) 0 2 rfl rfl rfl (by decide) lk_fRX11_326 (gD D_X11_lose_0 28 rfl) (fun o65 eo65 => ?_)
        replace hw := hw o65 eo65
        refine v_iload_n X 1 rfl (gD D_X11_lose_0 29 rfl) rfl ?_
        refine v_iload_n X 2 rfl (gD D_X11_lose_0 30 rfl) rfl ?_
        obtain ⟨a66, rfl, hw⟩ := hw
        refine v_callVi X (As := [.int x1, .int x2]) (rest := [.int x3, .int x2, .int x1, va_rf o62]) (nA := 2) 0 0 k n (fun ht => c_X1_at htr (ht.sub [0] rfl) hw) (Or.inl rfl) 0 (κ := 2) rfl (by decide) (rfl : gCl[1]? = some (RX1, TX1, 2)) lk_vRX11_176 (by decide +kernel) rfl rfl (by simp [rf_cat, ct_i]) (by decide) (by decide) rfl rfl (gD D_X11_lose_0 31 rfl) (fun x67 s68 hq _ _ => ?_)
        replace hw := hq
        clear hq
        refine v_mmin X lk_mRX11_329 lk_s_math_min lk_n_math lk_c_math_min (by simp [rf_cat, ct_i]) (gD D_X11_lose_0 32 rfl) ?_
        refine v_ineg X (gD D_X11_lose_0 33 rfl) ?_
        obtain ⟨a69, rfl, hw⟩ := hw
        refine v_callVv X (As := [.int x1, .int x2, .int (-(if x67 < x3 then x67 else x3))]) (rest := []) (nA := 3) 0 0 k n (fun ht => c_X1_add htr (ht.sub [2] rfl) hw) (Or.inl rfl) 2 (κ := 2) rfl (by decide) (rfl : gCl[1]? = some (RX1, TX1, 2)) lk_vRX11_202 (by decide +kernel) rfl rfl (by decide) (by decide) (by decide) rfl rfl (gD D_X11_lose_0 34 rfl) (fun s71 hq _ _ => ?_)
        replace hw := hq
        clear hq
        refine v_aload_n X 0 rfl (gD D_X11_lose_0 35 rfl) rfl ?_
        refine v_getR X RX11 TX11 19 12 11 (by decide) rfl gin11 9 1109 RX11 (Or.inl rfl) 4 1 rfl rfl rfl (by decide) lk_fRX11_52 (gD D_X11_lose_0 36 rfl) (fun o72 eo72 => ?_)
        replace hw := hw o72 eo72
        obtain ⟨a73, rfl, hw⟩ := hw
        refine v_getR X RX0 TX0 8 1 0 (by decide) rfl gin0 2 2 RX0 (Or.inl rfl) 0 2 rfl rfl rfl (by decide) lk_fRX11_326 (gD D_X11_lose_0 37 rfl) (fun o74 eo74 => ?_)
        replace hw := hw o74 eo74
        refine v_iload_n X 1 rfl (gD D_X11_lose_0 38 rfl) rfl ?_
        refine v_iload_n X 2 rfl (gD D_X11_lose_0 39 rfl) rfl ?_
        obtain ⟨a75, rfl, hw⟩ := hw
        refine v_callVi X (As := [.int x1, .int x2]) (rest := []) (nA := 2) 0 0 k n (fun ht => c_X1_at htr (ht.sub [0] rfl) hw) (Or.inl rfl) 0 (κ := 2) rfl (by decide) (rfl : gCl[1]? = some (RX1, TX1, 2)) lk_vRX11_176 (by decide +kernel) rfl rfl (by decide) (by decide) (by decide) rfl rfl (gD D_X11_lose_0 40 rfl) (fun x76 s77 hq _ _ => ?_)
        replace hw := hq
        clear hq
        exact v_X (v_iret X hr hw (gD D_X11_lose_0 41 rfl))
      · replace hw := hw.2 c59
        exact v_throw X hex 2 (by decide +kernel) lk_xRX11_90 lk_xi_2 lk_xaRX11_92 lk_xgRX11_90_92 (gD D_X11_lose_0 16 rfl) (gD D_X11_lose_0 17 rfl) (gD D_X11_lose_0 18 rfl) (gD D_X11_lose_0 19 rfl) (by decide) hw
    · replace hw := hw.2 c56
      exact v_throw X hex 1 (by decide +kernel) lk_xRX11_83 lk_xi_1 lk_xaRX11_85 lk_xgRX11_83_85 (gD D_X11_lose_0 7 rfl) (gD D_X11_lose_0 8 rfl) (gD D_X11_lose_0 9 rfl) (gD D_X11_lose_0 10 rfl) (by decide) hw
set_option maxRecDepth 100000 in
set_option maxHeartbeats 4000000 in
theorem c_X11_received {l : Launch} {G : GX} (htr : l.stackTraces = false) {k n : Nat} {σ : St} {a0 : Nat} {x1 : Int32} {x2 : Int32} {Q : Int32 → St → Prop} {Y : Nat → St → Prop} (ht : tvOk σ [(some a0, 12)]) (hw : w_X11_received k n a0 x1 x2 σ Q Y) : MIX l G 1 σ yX11_received cX11_received 3 (some .int) 2 k n [va_rf (some a0), .int x1, .int x2] Q Y := by
  unfold w_X11_received at hw
  refine m_startX RX11 (by decide) htr ht (Nat.le_of_ble_eq_true rfl) rfl (lv := [(0, va_rf (some a0)), (1, .int x1), (2, .int x2)]) (d := 1) (fun p e s m args below meth c X hr hin hex => ?_)
  refine v_aload_n X 0 rfl (gD D_X11_received_0 0 rfl) rfl ?_
  refine v_iload_n X 1 rfl (gD D_X11_received_0 1 rfl) rfl ?_
  refine v_callVi X (As := [.int x1]) (rest := []) (nA := 1) 0 0 k n (fun ht => c_X11_isNotice htr (ht.sub [0] rfl) hw) (Or.inl rfl) 0 (κ := 12) rfl (by decide) (rfl : gCl[11]? = some (RX11, TX11, 19)) lk_vRX11_195 (by decide +kernel) rfl rfl (by decide) (by decide) (by decide) rfl rfl (gD D_X11_received_0 2 rfl) (fun x51 s52 hq _ _ => ?_)
  replace hw := hq
  clear hq
  refine v_if_eq X 16 (gD D_X11_received_0 3 rfl) (by decide) (fun c53 => ?_) (fun c53 => ?_)
  · replace hw := hw.1 c53
    exact v_throw X hex 1 (by decide +kernel) lk_xRX11_83 lk_xi_1 lk_xaRX11_85 lk_xgRX11_83_85 (gD D_X11_received_0 8 rfl) (gD D_X11_received_0 9 rfl) (gD D_X11_received_0 10 rfl) (gD D_X11_received_0 11 rfl) (by decide) hw
  · replace hw := hw.2 c53
    refine v_aload_n X 0 rfl (gD D_X11_received_0 4 rfl) rfl ?_
    refine v_iload_n X 2 rfl (gD D_X11_received_0 5 rfl) rfl ?_
    refine v_callVi X (As := [.int x2]) (rest := []) (nA := 1) 0 0 k n (fun ht => c_X11_isLot htr (ht.sub [0] rfl) hw) (Or.inl rfl) 0 (κ := 12) rfl (by decide) (rfl : gCl[11]? = some (RX11, TX11, 19)) lk_vRX11_170 (by decide +kernel) rfl rfl (by decide) (by decide) (by decide) rfl rfl (gD D_X11_received_0 6 rfl) (fun x54 s55 hq _ _ => ?_)
    replace hw := hq
    clear hq
    refine v_if_ne X 24 (gD D_X11_received_0 7 rfl) (by decide) (fun c56 => ?_) (fun c56 => ?_)
    · replace hw := hw.1 c56
      refine v_aload_n X 0 rfl (gD D_X11_received_0 12 rfl) rfl ?_
      refine v_getR X RX11 TX11 19 12 11 (by decide) rfl gin11 10 1110 RX11 (Or.inl rfl) 0 2 rfl rfl rfl (by decide) lk_fRX11_61 (gD D_X11_received_0 13 rfl) (fun o57 eo57 => ?_)
      replace hw := hw o57 eo57
      refine v_iload_n X 1 rfl (gD D_X11_received_0 14 rfl) rfl ?_
      refine v_iload_n X 2 rfl (gD D_X11_received_0 15 rfl) rfl ?_
      obtain ⟨a58, rfl, hw⟩ := hw
      refine v_callVi X (As := [.int x1, .int x2]) (rest := []) (nA := 2) 0 0 k n (fun ht => c_X1_at htr (ht.sub [0] rfl) hw) (Or.inl rfl) 0 (κ := 2) rfl (by decide) (rfl : gCl[1]? = some (RX1, TX1, 2)) lk_vRX11_176 (by decide +kernel) rfl rfl (by decide) (by decide) (by decide) rfl rfl (gD D_X11_received_0 16 rfl) (fun x59 s60 hq _ _ => ?_)
      replace hw := hq
      clear hq
      exact v_X (v_iret X hr hw (gD D_X11_received_0 17 rfl))
    · replace hw := hw.2 c56
      exact v_throw X hex 1 (by decide +kernel) lk_xRX11_83 lk_xi_1 lk_xaRX11_85 lk_xgRX11_83_85 (gD D_X11_received_0 8 rfl) (gD D_X11_received_0 9 rfl) (gD D_X11_received_0 10 rfl) (gD D_X11_received_0 11 rfl) (by decide) hw
set_option maxRecDepth 100000 in
set_option maxHeartbeats 4000000 in
theorem c_X11_room {l : Launch} {G : GX} (htr : l.stackTraces = false) {k n : Nat} {σ : St} {a0 : Nat} {x1 : Int32} {Q : Int32 → St → Prop} {Y : Nat → St → Prop} (ht : tvOk σ [(some a0, 12)]) (hw : w_X11_room k n a0 x1 σ Q Y) : MIX l G 1 σ yX11_room cX11_room 2 (some .int) 2 k n [va_rf (some a0), .int x1] Q Y := by
  unfold w_X11_room at hw
  refine m_startX RX11 (by decide) htr ht (Nat.le_of_ble_eq_true rfl) rfl (lv := [(0, va_rf (some a0)), (1, .int x1)]) (d := 1) (fun p e s m args below meth c X hr hin hex => ?_)
  refine v_iload_n X 1 rfl (gD D_X11_room_0 0 rfl) rfl ?_
  refine v_callSi X (As := [.int x1]) (rest := []) (nA := 1) 0 0 k n (fun ht => c_X11_isSlot htr (ht.sub [] rfl) hw) (Or.inl rfl) lk_sRX11_79 (by decide +kernel) rfl rfl (by decide) (by decide) (by decide) rfl rfl (gD D_X11_room_0 1 rfl) (fun x51 s52 hq _ _ => ?_)
  replace hw := hq
  clear hq
  refine v_if_ne X 15 (gD D_X11_room_0 2 rfl) (by decide) (fun c53 => ?_) (fun c53 => ?_)
  · replace hw := hw.1 c53
    refine v_aload_n X 0 rfl (gD D_X11_room_0 7 rfl) rfl ?_
    refine v_iload_n X 1 rfl (gD D_X11_room_0 8 rfl) rfl ?_
    refine v_callVi X (As := [.int x1]) (rest := []) (nA := 1) 0 0 k n (fun ht => c_X11_freeRoom htr (ht.sub [0] rfl) hw) (Or.inl rfl) 0 (κ := 12) rfl (by decide) (rfl : gCl[11]? = some (RX11, TX11, 19)) lk_vRX11_186 (by decide +kernel) rfl rfl (by decide) (by decide) (by decide) rfl rfl (gD D_X11_room_0 9 rfl) (fun x54 s55 hq _ _ => ?_)
    replace hw := hq
    clear hq
    exact v_X (v_iret X hr hw (gD D_X11_room_0 10 rfl))
  · replace hw := hw.2 c53
    exact v_throw X hex 1 (by decide +kernel) lk_xRX11_83 lk_xi_1 lk_xaRX11_85 lk_xgRX11_83_85 (gD D_X11_room_0 3 rfl) (gD D_X11_room_0 4 rfl) (gD D_X11_room_0 5 rfl) (gD D_X11_room_0 6 rfl) (by decide) hw
set_option maxRecDepth 100000 in
set_option maxHeartbeats 4000000 in
theorem c_X11_sent {l : Launch} {G : GX} (htr : l.stackTraces = false) {k n : Nat} {σ : St} {a0 : Nat} {x1 : Int32} {x2 : Int32} {Q : Int32 → St → Prop} {Y : Nat → St → Prop} (ht : tvOk σ [(some a0, 12)]) (hw : w_X11_sent k n a0 x1 x2 σ Q Y) : MIX l G 1 σ yX11_sent cX11_sent 3 (some .int) 2 k n [va_rf (some a0), .int x1, .int x2] Q Y := by
  unfold w_X11_sent at hw
  refine m_startX RX11 (by decide) htr ht (Nat.le_of_ble_eq_true rfl) rfl (lv := [(0, va_rf (some a0)), (1, .int x1), (2, .int x2)]) (d := 1) (fun p e s m args below meth c X hr hin hex => ?_)
  refine v_aload_n X 0 rfl (gD D_X11_sent_0 0 rfl) rfl ?_
  refine v_iload_n X 1 rfl (gD D_X11_sent_0 1 rfl) rfl ?_
  refine v_callVi X (As := [.int x1]) (rest := []) (nA := 1) 0 0 k n (fun ht => c_X11_isOrder htr (ht.sub [0] rfl) hw) (Or.inl rfl) 0 (κ := 12) rfl (by decide) (rfl : gCl[11]? = some (RX11, TX11, 19)) lk_vRX11_240 (by decide +kernel) rfl rfl (by decide) (by decide) (by decide) rfl rfl (gD D_X11_sent_0 2 rfl) (fun x51 s52 hq _ _ => ?_)
  replace hw := hq
  clear hq
  refine v_if_eq X 16 (gD D_X11_sent_0 3 rfl) (by decide) (fun c53 => ?_) (fun c53 => ?_)
  · replace hw := hw.1 c53
    exact v_throw X hex 1 (by decide +kernel) lk_xRX11_83 lk_xi_1 lk_xaRX11_85 lk_xgRX11_83_85 (gD D_X11_sent_0 8 rfl) (gD D_X11_sent_0 9 rfl) (gD D_X11_sent_0 10 rfl) (gD D_X11_sent_0 11 rfl) (by decide) hw
  · replace hw := hw.2 c53
    refine v_aload_n X 0 rfl (gD D_X11_sent_0 4 rfl) rfl ?_
    refine v_iload_n X 2 rfl (gD D_X11_sent_0 5 rfl) rfl ?_
    refine v_callVi X (As := [.int x2]) (rest := []) (nA := 1) 0 0 k n (fun ht => c_X11_isLot htr (ht.sub [0] rfl) hw) (Or.inl rfl) 0 (κ := 12) rfl (by decide) (rfl : gCl[11]? = some (RX11, TX11, 19)) lk_vRX11_170 (by decide +kernel) rfl rfl (by decide) (by decide) (by decide) rfl rfl (gD D_X11_sent_0 6 rfl) (fun x54 s55 hq _ _ => ?_)
    replace hw := hq
    clear hq
    refine v_if_ne X 24 (gD D_X11_sent_0 7 rfl) (by decide) (fun c56 => ?_) (fun c56 => ?_)
    · replace hw := hw.1 c56
      refine v_aload_n X 0 rfl (gD D_X11_sent_0 12 rfl) rfl ?_
      refine v_getR X RX11 TX11 19 12 11 (by decide) rfl gin11 11 1111 RX11 (Or.inl rfl) 0 2 rfl rfl rfl (by decide) lk_fRX11_65 (gD D_X11_sent_0 13 rfl) (fun o57 eo57 => ?_)
      replace hw := hw o57 eo57
      refine v_iload_n X 1 rfl (gD D_X11_sent_0 14 rfl) rfl ?_
      refine v_iload_n X 2 rfl (gD D_X11_sent_0 15 rfl) rfl ?_
      obtain ⟨a58, rfl, hw⟩ := hw
      refine v_callVi X (As := [.int x1, .int x2]) (rest := []) (nA := 2) 0 0 k n (fun ht => c_X1_at htr (ht.sub [0] rfl) hw) (Or.inl rfl) 0 (κ := 2) rfl (by decide) (rfl : gCl[1]? = some (RX1, TX1, 2)) lk_vRX11_176 (by decide +kernel) rfl rfl (by decide) (by decide) (by decide) rfl rfl (gD D_X11_sent_0 16 rfl) (fun x59 s60 hq _ _ => ?_)
      replace hw := hq
      clear hq
      exact v_X (v_iret X hr hw (gD D_X11_sent_0 17 rfl))
    · replace hw := hw.2 c56
      exact v_throw X hex 1 (by decide +kernel) lk_xRX11_83 lk_xi_1 lk_xaRX11_85 lk_xgRX11_83_85 (gD D_X11_sent_0 8 rfl) (gD D_X11_sent_0 9 rfl) (gD D_X11_sent_0 10 rfl) (gD D_X11_sent_0 11 rfl) (by decide) hw
set_option maxRecDepth 100000 in
set_option maxHeartbeats 4000000 in
theorem t_X11_slotToRefillFrom_2 {p : Program} {l : Launch} {e : Env} {s : State} {m : MethodId} {args : Array Value} {below : List Frame} {meth : Method} {c : Code} {G : GX} {σ0 : St} {mc ms : Nat} {Q : Int32 → St → Prop} (X : VC p l (rmD 2 mc ms) s m args meth c G 2 mc ms 3 RX11 cX11_slotToRefillFrom) (hr : meth.sig.returnType = (some .int)) (hin : meth.name = yX11_slotToRefillFrom.name) (htr : l.stackTraces = false) : ∀ (f : Nat) (a0 : Nat) (a1 : Nat) (x2 : Int32) (σ : St), w_X11_slotToRefillFrom_2 Q  f a0 a1 x2 σ → V p l e (rmD 2 mc ms) s m args below meth c (MQ below (va_Qi Q (gB G 1 σ0) (GA G)) args s mc ms (GA G)) G 1 σ0 mc ms 3 σ 0 0 [(some a0, 12), (some a1, 6)] 2 [(0, va_rf (some a0)), (1, va_rf (some a1)), (2, .int x2)] [] := by
  intro f
  induction f with
  | zero => intro a0 a1 x2 σ hw; exact hw.elim
  | succ f ih =>
    intro a0 a1 x2 σ hw
    unfold w_X11_slotToRefillFrom_2 at hw
    refine v_iload_n X 2 rfl (gD D_X11_slotToRefillFrom_0 2 rfl) rfl ?_
    refine v_aload_n X 0 rfl (gD D_X11_slotToRefillFrom_0 3 rfl) rfl ?_
    refine v_getR X RX11 TX11 19 12 11 (by decide) rfl gin11 0 1100 RX11 (Or.inl rfl) 0 24 rfl rfl rfl (by decide) lk_fRX11_11 (gD D_X11_slotToRefillFrom_0 4 rfl) (fun o51 eo51 => ?_)
    replace hw := hw o51 eo51
    obtain ⟨a52, rfl, hw⟩ := hw
    refine v_alen X 0 rfl (by decide) (gD D_X11_slotToRefillFrom_0 5 rfl) ?_
    refine v_icmp_ge X 46 (gD D_X11_slotToRefillFrom_0 6 rfl) (by decide) (fun c53 => ?_) (fun c53 => ?_)
    · replace hw := hw.1 c53
      refine v_iconst X (-1) (gD D_X11_slotToRefillFrom_0 24 rfl) (by decide) ?_
      exact v_iret X hr hw (gD D_X11_slotToRefillFrom_0 25 rfl)
    · replace hw := hw.2 c53
      refine v_aload_n X 0 rfl (gD D_X11_slotToRefillFrom_0 7 rfl) rfl ?_
      refine v_getR X RX11 TX11 19 12 11 (by decide) rfl gin11 0 1100 RX11 (Or.inl rfl) 1 24 rfl rfl rfl (by decide) lk_fRX11_11 (gD D_X11_slotToRefillFrom_0 8 rfl) (fun o54 eo54 => ?_)
      replace hw := hw o54 eo54
      refine v_iload_n X 2 rfl (gD D_X11_slotToRefillFrom_0 9 rfl) rfl ?_
      obtain ⟨a55, rfl, hw⟩ := hw
      obtain ⟨h56, hw⟩ := hw
      refine v_aald X 0 10 rfl (by decide) h56 (gD D_X11_slotToRefillFrom_0 10 rfl) (fun o57 eo57 => ?_)
      replace hw := hw o57 eo57
      obtain ⟨a58, rfl, hw⟩ := hw
      refine v_getR X RX9 TX9 5 10 9 (by decide) rfl gin9 2 902 RX9 (Or.inl rfl) 0 4 rfl rfl rfl (by decide) lk_fRX11_93 (gD D_X11_slotToRefillFrom_0 11 rfl) (fun o59 eo59 => ?_)
      replace hw := hw o59 eo59
      refine v_ifnonnull X 40 (gD D_X11_slotToRefillFrom_0 12 rfl) (by decide) (fun a61 c60 => ?_) (fun c60 => ?_)
      · replace hw := hw.2 a61 c60
        subst c60
        refine v_iinc X (x2 + 1) 2 rfl [(2, .int (x2 + 1)), (0, va_rf (some a0)), (1, va_rf (some a1))] (gD D_X11_slotToRefillFrom_0 22 rfl) rfl (by decide) rfl ?_
        refine v_goto X 2 (gD D_X11_slotToRefillFrom_0 23 rfl) (by decide) ?_
        exact v_sub [4, 5] [1, 2, 0] rfl rfl (ih a0 a1 (x2 + 1) σ hw)
      · replace hw := hw.1 c60
        subst c60
        refine v_aload_n X 0 rfl (gD D_X11_slotToRefillFrom_0 13 rfl) rfl ?_
        refine v_getR X RX11 TX11 19 12 11 (by decide) rfl gin11 9 1109 RX11 (Or.inl rfl) 4 1 rfl rfl rfl (by decide) lk_fRX11_52 (gD D_X11_slotToRefillFrom_0 14 rfl) (fun o62 eo62 => ?_)
        replace hw := hw o62 eo62
        refine v_iload_n X 2 rfl (gD D_X11_slotToRefillFrom_0 15 rfl) rfl ?_
        refine v_aload_n X 1 rfl (gD D_X11_slotToRefillFrom_0 16 rfl) rfl ?_
        refine v_getI X RX5 TX5 4 6 5 (by decide) rfl gin5 0 500 RX5 (Or.inl rfl) 6 rfl rfl (by decide) lk_fRX11_167 (gD D_X11_slotToRefillFrom_0 17 rfl) ?_
        obtain ⟨a63, rfl, hw⟩ := hw
        refine v_callVi X (As := [.int x2, .int (sI σ 500 a1)]) (rest := []) (nA := 2) 0 0 0 0 (fun ht => c_X0_freePieces htr (ht.sub [0] rfl) hw) (Or.inl rfl) 0 (κ := 1) rfl (by decide) (rfl : gCl[0]? = some (RX0, TX0, 8)) lk_vRX11_183 (by decide +kernel) rfl rfl (by decide) (by decide) (by decide) rfl rfl (gD D_X11_slotToRefillFrom_0 18 rfl) (fun x64 s65 hq _ _ => ?_)
        replace hw := hq
        clear hq
        refine v_if_le X 40 (gD D_X11_slotToRefillFrom_0 19 rfl) (by decide) (fun c66 => ?_) (fun c66 => ?_)
        · replace hw := hw.1 c66
          refine v_iinc X (x2 + 1) 2 rfl [(2, .int (x2 + 1)), (0, va_rf (some a0)), (1, va_rf (some a1))] (gD D_X11_slotToRefillFrom_0 22 rfl) rfl (by decide) rfl ?_
          refine v_goto X 2 (gD D_X11_slotToRefillFrom_0 23 rfl) (by decide) ?_
          exact v_sub [5, 6] [1, 2, 0] rfl rfl (ih a0 a1 (x2 + 1) s65 hw)
        · replace hw := hw.2 c66
          refine v_iload_n X 2 rfl (gD D_X11_slotToRefillFrom_0 20 rfl) rfl ?_
          exact v_iret X hr hw (gD D_X11_slotToRefillFrom_0 21 rfl)
set_option maxRecDepth 100000 in
set_option maxHeartbeats 4000000 in
theorem c_X11_slotToRefillFrom {l : Launch} {G : GX} (htr : l.stackTraces = false) {σ : St} {a0 : Nat} {a1 : Nat} {Q : Int32 → St → Prop} (ht : tvOk σ [(some a0, 12), (some a1, 6)]) (hw : w_X11_slotToRefillFrom a0 a1 σ Q) : MI l G 1 σ yX11_slotToRefillFrom cX11_slotToRefillFrom 3 (some .int) 2 0 0 [va_rf (some a0), va_rf (some a1)] Q := by
  unfold w_X11_slotToRefillFrom at hw
  refine m_start RX11 (by decide) htr ht (Nat.le_of_ble_eq_true rfl) rfl (lv := [(0, va_rf (some a0)), (1, va_rf (some a1))]) (d := 1) (fun p e s m args below meth c X hr hin => ?_)
  refine v_iconst X 0 (gD D_X11_slotToRefillFrom_0 0 rfl) (by decide) ?_
  refine v_istore_n X [(2, .int 0), (0, va_rf (some a0)), (1, va_rf (some a1))] (gD D_X11_slotToRefillFrom_0 1 rfl) rfl (by decide) rfl ?_
  obtain ⟨f67, hw⟩ := hw
  exact v_sub [0, 1] [1, 2, 0] rfl rfl (t_X11_slotToRefillFrom_2 X hr hin htr  f67 a0 a1 0 σ hw)
set_option maxRecDepth 100000 in
set_option maxHeartbeats 4000000 in
theorem c_X11_stock {l : Launch} {G : GX} (htr : l.stackTraces = false) {k n : Nat} {σ : St} {a0 : Nat} {x1 : Int32} {x2 : Int32} {Q : Int32 → St → Prop} {Y : Nat → St → Prop} (ht : tvOk σ [(some a0, 12)]) (hw : w_X11_stock k n a0 x1 x2 σ Q Y) : MIX l G 1 σ yX11_stock cX11_stock 3 (some .int) 2 k n [va_rf (some a0), .int x1, .int x2] Q Y := by
  unfold w_X11_stock at hw
  refine m_startX RX11 (by decide) htr ht (Nat.le_of_ble_eq_true rfl) rfl (lv := [(0, va_rf (some a0)), (1, .int x1), (2, .int x2)]) (d := 1) (fun p e s m args below meth c X hr hin hex => ?_)
  refine v_iload_n X 1 rfl (gD D_X11_stock_0 0 rfl) rfl ?_
  refine v_iconst X 0 (gD D_X11_stock_0 1 rfl) (by decide) ?_
  refine v_bipush X 27 (gD D_X11_stock_0 2 rfl) (by decide) ?_
  refine v_callSi X (As := [.int x1, .int 0, .int 27]) (rest := []) (nA := 3) 0 0 k n (fun ht => c_X11_isWithin htr (ht.sub [] rfl) hw) (Or.inl rfl) lk_sRX11_86 (by decide +kernel) rfl rfl (by decide) (by decide) (by decide) rfl rfl (gD D_X11_stock_0 3 rfl) (fun x51 s52 hq _ _ => ?_)
  replace hw := hq
  clear hq
  refine v_if_eq X 18 (gD D_X11_stock_0 4 rfl) (by decide) (fun c53 => ?_) (fun c53 => ?_)
  · replace hw := hw.1 c53
    exact v_throw X hex 1 (by decide +kernel) lk_xRX11_83 lk_xi_1 lk_xaRX11_85 lk_xgRX11_83_85 (gD D_X11_stock_0 9 rfl) (gD D_X11_stock_0 10 rfl) (gD D_X11_stock_0 11 rfl) (gD D_X11_stock_0 12 rfl) (by decide) hw
  · replace hw := hw.2 c53
    refine v_aload_n X 0 rfl (gD D_X11_stock_0 5 rfl) rfl ?_
    refine v_iload_n X 2 rfl (gD D_X11_stock_0 6 rfl) rfl ?_
    refine v_callVi X (As := [.int x2]) (rest := []) (nA := 1) 0 0 k n (fun ht => c_X11_isLot htr (ht.sub [0] rfl) hw) (Or.inl rfl) 0 (κ := 12) rfl (by decide) (rfl : gCl[11]? = some (RX11, TX11, 19)) lk_vRX11_170 (by decide +kernel) rfl rfl (by decide) (by decide) (by decide) rfl rfl (gD D_X11_stock_0 7 rfl) (fun x54 s55 hq _ _ => ?_)
    replace hw := hq
    clear hq
    refine v_if_ne X 26 (gD D_X11_stock_0 8 rfl) (by decide) (fun c56 => ?_) (fun c56 => ?_)
    · replace hw := hw.1 c56
      refine v_aload_n X 0 rfl (gD D_X11_stock_0 13 rfl) rfl ?_
      refine v_getR X RX11 TX11 19 12 11 (by decide) rfl gin11 9 1109 RX11 (Or.inl rfl) 0 1 rfl rfl rfl (by decide) lk_fRX11_52 (gD D_X11_stock_0 14 rfl) (fun o57 eo57 => ?_)
      replace hw := hw o57 eo57
      obtain ⟨a58, rfl, hw⟩ := hw
      refine v_getR X RX0 TX0 8 1 0 (by decide) rfl gin0 0 0 RX0 (Or.inl rfl) 0 2 rfl rfl rfl (by decide) lk_fRX11_173 (gD D_X11_stock_0 15 rfl) (fun o59 eo59 => ?_)
      replace hw := hw o59 eo59
      refine v_iload_n X 1 rfl (gD D_X11_stock_0 16 rfl) rfl ?_
      refine v_iload_n X 2 rfl (gD D_X11_stock_0 17 rfl) rfl ?_
      obtain ⟨a60, rfl, hw⟩ := hw
      refine v_callVi X (As := [.int x1, .int x2]) (rest := []) (nA := 2) 0 0 k n (fun ht => c_X1_at htr (ht.sub [0] rfl) hw) (Or.inl rfl) 0 (κ := 2) rfl (by decide) (rfl : gCl[1]? = some (RX1, TX1, 2)) lk_vRX11_176 (by decide +kernel) rfl rfl (by decide) (by decide) (by decide) rfl rfl (gD D_X11_stock_0 18 rfl) (fun x61 s62 hq _ _ => ?_)
      replace hw := hq
      clear hq
      exact v_X (v_iret X hr hw (gD D_X11_stock_0 19 rfl))
    · replace hw := hw.2 c56
      exact v_throw X hex 1 (by decide +kernel) lk_xRX11_83 lk_xi_1 lk_xaRX11_85 lk_xgRX11_83_85 (gD D_X11_stock_0 9 rfl) (gD D_X11_stock_0 10 rfl) (gD D_X11_stock_0 11 rfl) (gD D_X11_stock_0 12 rfl) (by decide) hw
set_option maxRecDepth 100000 in
set_option maxHeartbeats 4000000 in
theorem c_X11_stockAnew {l : Launch} {G : GX} (htr : l.stackTraces = false) {k n : Nat} {σ : St} {a0 : Nat} {x1 : Int32} {x2 : Int32} {Q : Int32 → St → Prop} {Y : Nat → St → Prop} (ht : tvOk σ [(some a0, 12)]) (hw : w_X11_stockAnew k n a0 x1 x2 σ Q Y) : MIX l G 1 σ yX11_stockAnew cX11_stockAnew 3 (some .int) 2 k n [va_rf (some a0), .int x1, .int x2] Q Y := by
  unfold w_X11_stockAnew at hw
  refine m_startX RX11 (by decide) htr ht (Nat.le_of_ble_eq_true rfl) rfl (lv := [(0, va_rf (some a0)), (1, .int x1), (2, .int x2)]) (d := 1) (fun p e s m args below meth c X hr hin hex => ?_)
  refine v_iload_n X 1 rfl (gD D_X11_stockAnew_0 0 rfl) rfl ?_
  refine v_iconst X 0 (gD D_X11_stockAnew_0 1 rfl) (by decide) ?_
  refine v_bipush X 27 (gD D_X11_stockAnew_0 2 rfl) (by decide) ?_
  refine v_callSi X (As := [.int x1, .int 0, .int 27]) (rest := []) (nA := 3) 0 0 k n (fun ht => c_X11_isWithin htr (ht.sub [] rfl) hw) (Or.inl rfl) lk_sRX11_86 (by decide +kernel) rfl rfl (by decide) (by decide) (by decide) rfl rfl (gD D_X11_stockAnew_0 3 rfl) (fun x51 s52 hq _ _ => ?_)
  replace hw := hq
  clear hq
  refine v_if_eq X 18 (gD D_X11_stockAnew_0 4 rfl) (by decide) (fun c53 => ?_) (fun c53 => ?_)
  · replace hw := hw.1 c53
    exact v_throw X hex 1 (by decide +kernel) lk_xRX11_83 lk_xi_1 lk_xaRX11_85 lk_xgRX11_83_85 (gD D_X11_stockAnew_0 9 rfl) (gD D_X11_stockAnew_0 10 rfl) (gD D_X11_stockAnew_0 11 rfl) (gD D_X11_stockAnew_0 12 rfl) (by decide) hw
  · replace hw := hw.2 c53
    refine v_aload_n X 0 rfl (gD D_X11_stockAnew_0 5 rfl) rfl ?_
    refine v_iload_n X 2 rfl (gD D_X11_stockAnew_0 6 rfl) rfl ?_
    refine v_callVi X (As := [.int x2]) (rest := []) (nA := 1) 0 0 k n (fun ht => c_X11_isLot htr (ht.sub [0] rfl) hw) (Or.inl rfl) 0 (κ := 12) rfl (by decide) (rfl : gCl[11]? = some (RX11, TX11, 19)) lk_vRX11_170 (by decide +kernel) rfl rfl (by decide) (by decide) (by decide) rfl rfl (gD D_X11_stockAnew_0 7 rfl) (fun x54 s55 hq _ _ => ?_)
    replace hw := hq
    clear hq
    refine v_if_ne X 26 (gD D_X11_stockAnew_0 8 rfl) (by decide) (fun c56 => ?_) (fun c56 => ?_)
    · replace hw := hw.1 c56
      refine v_aload_n X 0 rfl (gD D_X11_stockAnew_0 13 rfl) rfl ?_
      refine v_getR X RX11 TX11 19 12 11 (by decide) rfl gin11 9 1109 RX11 (Or.inl rfl) 0 1 rfl rfl rfl (by decide) lk_fRX11_52 (gD D_X11_stockAnew_0 14 rfl) (fun o57 eo57 => ?_)
      replace hw := hw o57 eo57
      refine v_iload_n X 1 rfl (gD D_X11_stockAnew_0 15 rfl) rfl ?_
      refine v_iload_n X 2 rfl (gD D_X11_stockAnew_0 16 rfl) rfl ?_
      obtain ⟨a58, rfl, hw⟩ := hw
      refine v_callVi X (As := [.int x1, .int x2]) (rest := []) (nA := 2) 0 0 k n (fun ht => c_X0_madeAnew htr (ht.sub [0] rfl) hw) (Or.inl rfl) 0 (κ := 1) rfl (by decide) (rfl : gCl[0]? = some (RX0, TX0, 8)) lk_vRX11_180 (by decide +kernel) rfl rfl (by decide) (by decide) (by decide) rfl rfl (gD D_X11_stockAnew_0 17 rfl) (fun x59 s60 hq _ _ => ?_)
      replace hw := hq
      clear hq
      exact v_X (v_iret X hr hw (gD D_X11_stockAnew_0 18 rfl))
    · replace hw := hw.2 c56
      exact v_throw X hex 1 (by decide +kernel) lk_xRX11_83 lk_xi_1 lk_xaRX11_85 lk_xgRX11_83_85 (gD D_X11_stockAnew_0 9 rfl) (gD D_X11_stockAnew_0 10 rfl) (gD D_X11_stockAnew_0 11 rfl) (gD D_X11_stockAnew_0 12 rfl) (by decide) hw
set_option maxRecDepth 100000 in
set_option maxHeartbeats 4000000 in
theorem t_X11_undoStandstill_8 {p : Program} {l : Launch} {e : Env} {s : State} {m : MethodId} {args : Array Value} {below : List Frame} {meth : Method} {c : Code} {G : GX} {σ0 : St} {mc ms : Nat} {Q : St → Prop} (X : VC p l (rmD 2 mc ms) s m args meth c G 2 mc ms 2 RX11 cX11_undoStandstill) (hr : meth.sig.returnType = none) (hin : meth.name = yX11_undoStandstill.name) (htr : l.stackTraces = false) : ∀ (f : Nat) (a0 : Nat) (x1 : Int32) (σ : St), w_X11_undoStandstill_8 Q  f a0 x1 σ → V p l e (rmD 2 mc ms) s m args below meth c (MQ below (va_Qv Q (gB G 1 σ0) (GA G)) args s mc ms (GA G)) G 1 σ0 mc ms 2 σ 0 0 [(some a0, 12)] 8 [(0, va_rf (some a0)), (1, .int x1)] [] := by
  intro f
  induction f with
  | zero => intro a0 x1 σ hw; exact hw.elim
  | succ f ih =>
    intro a0 x1 σ hw
    unfold w_X11_undoStandstill_8 at hw
    refine v_iload_n X 1 rfl (gD D_X11_undoStandstill_0 6 rfl) rfl ?_
    refine v_if_lt X 51 (gD D_X11_undoStandstill_0 7 rfl) (by decide) (fun c54 => ?_) (fun c54 => ?_)
    · replace hw := hw.1 c54
      exact v_vret X hr hw (gD D_X11_undoStandstill_0 29 rfl)
    · replace hw := hw.2 c54
      refine v_aload_n X 0 rfl (gD D_X11_undoStandstill_0 8 rfl) rfl ?_
      refine v_aload_n X 0 rfl (gD D_X11_undoStandstill_0 9 rfl) rfl ?_
      refine v_getR X RX11 TX11 19 12 11 (by decide) rfl gin11 2 1102 RX11 (Or.inl rfl) 0 26 rfl rfl rfl (by decide) lk_fRX11_23 (gD D_X11_undoStandstill_0 10 rfl) (fun o55 eo55 => ?_)
      replace hw := hw o55 eo55
      refine v_iload_n X 1 rfl (gD D_X11_undoStandstill_0 11 rfl) rfl ?_
      obtain ⟨a56, rfl, hw⟩ := hw
      obtain ⟨h57, hw⟩ := hw
      refine v_aald X 0 9 rfl (by decide) h57 (gD D_X11_undoStandstill_0 12 rfl) (fun o58 eo58 => ?_)
      replace hw := hw o58 eo58
      obtain ⟨a59, rfl, hw⟩ := hw
      refine v_callVi X (As := [va_rf (some a59)]) (rest := []) (nA := 1) 0 0 0 0 (fun ht => c_X11_isInRing htr (ht.sub [2, 0] rfl) hw) (Or.inl rfl) 2 (κ := 12) rfl (by decide) (rfl : gCl[11]? = some (RX11, TX11, 19)) lk_vRX11_510 (by decide +kernel) rfl rfl (by decide) (by decide) (by decide) rfl rfl (gD D_X11_undoStandstill_0 13 rfl) (fun x60 s61 hq _ _ => ?_)
      replace hw := hq
      clear hq
      refine v_if_eq X 45 (gD D_X11_undoStandstill_0 14 rfl) (by decide) (fun c62 => ?_) (fun c62 => ?_)
      · replace hw := hw.1 c62
        refine v_iinc X (x1 + (-1)) 1 rfl [(1, .int (x1 + (-1))), (0, va_rf (some a0))] (gD D_X11_undoStandstill_0 27 rfl) rfl (by decide) rfl ?_
        refine v_goto X 8 (gD D_X11_undoStandstill_0 28 rfl) (by decide) ?_
        exact v_sub [2] [1, 0] rfl rfl (ih a0 (x1 + (-1)) s61 hw)
      · replace hw := hw.2 c62
        refine v_aload_n X 0 rfl (gD D_X11_undoStandstill_0 15 rfl) rfl ?_
        refine v_getR X RX11 TX11 19 12 11 (by decide) rfl gin11 2 1102 RX11 (Or.inl rfl) 2 26 rfl rfl rfl (by decide) lk_fRX11_23 (gD D_X11_undoStandstill_0 16 rfl) (fun o63 eo63 => ?_)
        replace hw := hw o63 eo63
        refine v_iload_n X 1 rfl (gD D_X11_undoStandstill_0 17 rfl) rfl ?_
        obtain ⟨a64, rfl, hw⟩ := hw
        obtain ⟨h65, hw⟩ := hw
        refine v_aald X 0 9 rfl (by decide) h65 (gD D_X11_undoStandstill_0 18 rfl) (fun o66 eo66 => ?_)
        replace hw := hw o66 eo66
        obtain ⟨a67, rfl, hw⟩ := hw
        refine v_callVv X (As := []) (rest := []) (nA := 0) 0 0 0 0 (fun ht => c_X8_goToFront htr (ht.sub [0] rfl) hw) (Or.inl rfl) 0 (κ := 9) rfl (by decide) (rfl : gCl[8]? = some (RX8, TX8, 4)) lk_vRX11_484 (by decide +kernel) rfl rfl (by decide) (by decide) (by decide) rfl rfl (gD D_X11_undoStandstill_0 19 rfl) (fun s69 hq _ _ => ?_)
        replace hw := hq
        clear hq
        refine v_aload_n X 0 rfl (gD D_X11_undoStandstill_0 20 rfl) rfl ?_
        refine v_dup X (gD D_X11_undoStandstill_0 21 rfl) (rf_cat _) ?_
        refine v_getI X RX11 TX11 19 12 11 (by decide) rfl gin11 17 1117 RX11 (Or.inl rfl) 4 rfl rfl (by decide) lk_fRX11_323 (gD D_X11_undoStandstill_0 22 rfl) ?_
        refine v_iconst X 1 (gD D_X11_undoStandstill_0 23 rfl) (by decide) ?_
        refine v_iadd X (gD D_X11_undoStandstill_0 24 rfl) ?_
        refine v_putI X RX11 TX11 19 12 11 (by decide) rfl gin11 17 1117 tyX11 tyX11_ok nmX11 RX11 (Or.inl rfl) 4 rfl .int (int_fit _) rfl (by decide) (Or.inl rfl) lk_fRX11_323 rfl rfl (gD D_X11_undoStandstill_0 25 rfl) (fun s70 es70 => ?_)
        replace hw := hw s70 es70
        exact v_vret X hr hw (gD D_X11_undoStandstill_0 26 rfl)
set_option maxRecDepth 100000 in
set_option maxHeartbeats 4000000 in
theorem c_X11_undoStandstill {l : Launch} {G : GX} (htr : l.stackTraces = false) {σ : St} {a0 : Nat} {Q : St → Prop} (ht : tvOk σ [(some a0, 12)]) (hw : w_X11_undoStandstill a0 σ Q) : MV l G 1 σ yX11_undoStandstill cX11_undoStandstill 2 2 0 0 [va_rf (some a0)] Q := by
  unfold w_X11_undoStandstill at hw
  refine m_start RX11 (by decide) htr ht (Nat.le_of_ble_eq_true rfl) rfl (lv := [(0, va_rf (some a0))]) (d := 1) (fun p e s m args below meth c X hr hin => ?_)
  refine v_aload_n X 0 rfl (gD D_X11_undoStandstill_0 0 rfl) rfl ?_
  refine v_getR X RX11 TX11 19 12 11 (by decide) rfl gin11 2 1102 RX11 (Or.inl rfl) 0 26 rfl rfl rfl (by decide) lk_fRX11_23 (gD D_X11_undoStandstill_0 1 rfl) (fun o51 eo51 => ?_)
  replace hw := hw o51 eo51
  obtain ⟨a52, rfl, hw⟩ := hw
  refine v_alen X 0 rfl (by decide) (gD D_X11_undoStandstill_0 2 rfl) ?_
  refine v_iconst X 1 (gD D_X11_undoStandstill_0 3 rfl) (by decide) ?_
  refine v_isub X (gD D_X11_undoStandstill_0 4 rfl) ?_
  refine v_topi (fun x53 ex53 => ?_)
  replace hw := hw x53 ex53
  refine v_istore_n X [(1, .int x53), (0, va_rf (some a0))] (gD D_X11_undoStandstill_0 5 rfl) rfl (by decide) rfl ?_
  obtain ⟨f71, hw⟩ := hw
  exact v_sub [1] [1, 0] rfl rfl (t_X11_undoStandstill_8 X hr hin htr  f71 a0 x53 σ hw)
set_option maxRecDepth 100000 in
set_option maxHeartbeats 4000000 in
theorem c_X0_believeTruth {l : Launch} {G : GX} (htr : l.stackTraces = false) {k n : Nat} {σ : St} {a0 : Nat} {x1 : Int32} {a2 : Nat} {Q : St → Prop} (ht : tvOk σ [(some a0, 1), (some a2, 6)]) (hw : w_X0_believeTruth k n a0 x1 a2 σ Q) : MV l G 1 σ yX0_believeTruth cX0_believeTruth 3 3 k n [va_rf (some a0), .int x1, va_rf (some a2)] Q := by
  unfold w_X0_believeTruth at hw
  refine m_start RX0 (by decide) htr ht (Nat.le_of_ble_eq_true rfl) rfl (lv := [(0, va_rf (some a0)), (1, .int x1), (2, va_rf (some a2))]) (d := 1) (fun p e s m args below meth c X hr hin => ?_)
  refine v_aload_n X 0 rfl (gD D_X0_believeTruth_0 0 rfl) rfl ?_
  refine v_iconst X (-1) (gD D_X0_believeTruth_0 1 rfl) (by decide) ?_
  refine v_iload_n X 1 rfl (gD D_X0_believeTruth_0 2 rfl) rfl ?_
  refine v_aload_n X 2 rfl (gD D_X0_believeTruth_0 3 rfl) rfl ?_
  refine v_aload_n X 0 rfl (gD D_X0_believeTruth_0 4 rfl) rfl ?_
  refine v_getR X RX0 TX0 8 1 0 (by decide) rfl gin0 2 2 RX0 (Or.inl rfl) 0 2 rfl rfl rfl (by decide) lk_fRX0_23 (gD D_X0_believeTruth_0 5 rfl) (fun o51 eo51 => ?_)
  replace hw := hw o51 eo51
  refine v_iload_n X 1 rfl (gD D_X0_believeTruth_0 6 rfl) rfl ?_
  refine v_aload_n X 2 rfl (gD D_X0_believeTruth_0 7 rfl) rfl ?_
  refine v_getI X RX5 TX5 4 6 5 (by decide) rfl gin5 0 500 RX5 (Or.inl rfl) 2 rfl rfl (by decide) lk_fRX0_39 (gD D_X0_believeTruth_0 8 rfl) ?_
  obtain ⟨a52, rfl, hw⟩ := hw
  refine v_callVi X (As := [.int x1, .int (sI σ 500 a2)]) (rest := [va_rf (some a2), .int x1, .int (-1), va_rf (some a0)]) (nA := 2) 0 0 k n (fun ht => c_X1_at htr (ht.sub [0] rfl) hw) (Or.inl rfl) 0 (κ := 2) rfl (by decide) (rfl : gCl[1]? = some (RX1, TX1, 2)) lk_vRX0_45 (by decide +kernel) rfl rfl (by simp [rf_cat, ct_i]) (by decide) (by decide) rfl rfl (gD D_X0_believeTruth_0 9 rfl) (fun x53 s54 hq _ _ => ?_)
  replace hw := hq
  clear hq
  refine v_aload_n X 0 rfl (gD D_X0_believeTruth_0 10 rfl) rfl ?_
  refine v_getR X RX0 TX0 8 1 0 (by decide) rfl gin0 0 0 RX0 (Or.inl rfl) 1 2 rfl rfl rfl (by decide) lk_fRX0_14 (gD D_X0_believeTruth_0 11 rfl) (fun o55 eo55 => ?_)
  replace hw := hw o55 eo55
  refine v_iload_n X 1 rfl (gD D_X0_believeTruth_0 12 rfl) rfl ?_
  refine v_aload_n X 2 rfl (gD D_X0_believeTruth_0 13 rfl) rfl ?_
  refine v_getI X RX5 TX5 4 6 5 (by decide) rfl gin5 0 500 RX5 (Or.inl rfl) 3 rfl rfl (by decide) lk_fRX0_39 (gD D_X0_believeTruth_0 14 rfl) ?_
  obtain ⟨a56, rfl, hw⟩ := hw
  refine v_callVi X (As := [.int x1, .int (sI s54 500 a2)]) (rest := [.int x53, va_rf (some a2), .int x1, .int (-1), va_rf (some a0)]) (nA := 2) 0 0 k n (fun ht => c_X1_at htr (ht.sub [0] rfl) hw) (Or.inl rfl) 0 (κ := 2) rfl (by decide) (rfl : gCl[1]? = some (RX1, TX1, 2)) lk_vRX0_45 (by decide +kernel) rfl rfl (by simp [rf_cat, ct_i]) (by decide) (by decide) rfl rfl (gD D_X0_believeTruth_0 15 rfl) (fun x57 s58 hq _ _ => ?_)
  replace hw := hq
  clear hq
  refine v_isub X (gD D_X0_believeTruth_0 16 rfl) ?_
  obtain ⟨k61, n62, k63, n64, h65, h66, hw⟩ := hw
  refine v_callVv X (As := [.int (-1), .int x1, va_rf (some a2), .int (x53 - x57)]) (rest := []) (nA := 4) k61 n62 k63 n64 (fun ht => c_X0_write htr (ht.sub [2, 3] rfl) hw) (Or.inl rfl) 2 (κ := 1) rfl (by decide) (rfl : gCl[0]? = some (RX0, TX0, 8)) lk_vRX0_58 (by decide +kernel) rfl rfl (by decide) (by decide) (by decide) h65 h66 (gD D_X0_believeTruth_0 17 rfl) (fun s60 hq _ _ => ?_)
  replace hw := hq
  clear hq
  exact v_vret X hr hw (gD D_X0_believeTruth_0 18 rfl)
set_option maxRecDepth 100000 in
set_option maxHeartbeats 4000000 in
theorem t_X0_move_27 {p : Program} {l : Launch} {e : Env} {s : State} {m : MethodId} {args : Array Value} {below : List Frame} {meth : Method} {c : Code} {G : GX} {σ0 : St} {mc ms : Nat} {Q : St → Prop} (X : VC p l (rmD 3 mc ms) s m args meth c G 3 mc ms 6 RX0 cX0_move) (hr : meth.sig.returnType = none) (hin : meth.name = yX0_move.name) (htr : l.stackTraces = false) : ∀ (a0 : Nat) (x1 : Int32) (x2 : Int32) (a3 : Nat) (x4 : Int32) (xs0 : Int32) (σ : St) (k n : Nat), w_X0_move_27 Q  a0 x1 x2 a3 x4 xs0 σ k n → V p l e (rmD 3 mc ms) s m args below meth c (MQ below (va_Qv Q (gB G 1 σ0) (GA G)) args s mc ms (GA G)) G 1 σ0 mc ms 6 σ k n [(some a0, 1), (some a3, 6)] 27 [(0, va_rf (some a0)), (1, .int x1), (2, .int x2), (3, va_rf (some a3)), (4, .int x4)] [.int xs0] := by
  intro a0 x1 x2 a3 x4 xs0 σ k n hw
  unfold w_X0_move_27 at hw
  refine v_istore X [(5, .int xs0), (0, va_rf (some a0)), (1, .int x1), (2, .int x2), (3, va_rf (some a3)), (4, .int x4)] (gD D_X0_move_0 13 rfl) (by decide) rfl ?_
  refine v_aload_n X 1 rfl (gD D_X0_move_0 14 rfl) rfl ?_
  refine v_getR X RX0 TX0 8 1 0 (by decide) rfl gin0 2 2 RX0 (Or.inl rfl) 0 2 rfl rfl rfl (by decide) lk_fRX0_23 (gD D_X0_move_0 15 rfl) (fun o56 eo56 => ?_)
  replace hw := hw o56 eo56
  refine v_iload_n X 2 rfl (gD D_X0_move_0 16 rfl) rfl ?_
  refine v_aload_n X 4 rfl (gD D_X0_move_0 17 rfl) rfl ?_
  refine v_getI X RX5 TX5 4 6 5 (by decide) rfl gin5 0 500 RX5 (Or.inl rfl) 2 rfl rfl (by decide) lk_fRX0_39 (gD D_X0_move_0 18 rfl) ?_
  refine v_iload X 0 rfl (gD D_X0_move_0 19 rfl) ?_
  refine v_ineg X (gD D_X0_move_0 20 rfl) ?_
  obtain ⟨a57, rfl, hw⟩ := hw
  refine v_callVv X (As := [.int x1, .int (sI σ 500 a3), .int (-xs0)]) (rest := []) (nA := 3) 0 0 k n (fun ht => c_X1_add htr (ht.sub [0] rfl) hw) (Or.inl rfl) 0 (κ := 2) rfl (by decide) (rfl : gCl[1]? = some (RX1, TX1, 2)) lk_vRX0_54 (by decide +kernel) rfl rfl (by decide) (by decide) (by decide) rfl rfl (gD D_X0_move_0 21 rfl) (fun s59 hq _ _ => ?_)
  replace hw := hq
  clear hq
  refine v_aload_n X 1 rfl (gD D_X0_move_0 22 rfl) rfl ?_
  refine v_getR X RX0 TX0 8 1 0 (by decide) rfl gin0 2 2 RX0 (Or.inl rfl) 1 2 rfl rfl rfl (by decide) lk_fRX0_23 (gD D_X0_move_0 23 rfl) (fun o60 eo60 => ?_)
  replace hw := hw o60 eo60
  refine v_iload_n X 3 rfl (gD D_X0_move_0 24 rfl) rfl ?_
  refine v_aload_n X 4 rfl (gD D_X0_move_0 25 rfl) rfl ?_
  refine v_getI X RX5 TX5 4 6 5 (by decide) rfl gin5 0 500 RX5 (Or.inl rfl) 3 rfl rfl (by decide) lk_fRX0_39 (gD D_X0_move_0 26 rfl) ?_
  refine v_iload X 0 rfl (gD D_X0_move_0 27 rfl) ?_
  obtain ⟨a61, rfl, hw⟩ := hw
  refine v_callVv X (As := [.int x2, .int (sI s59 500 a3), .int xs0]) (rest := []) (nA := 3) 0 0 k n (fun ht => c_X1_add htr (ht.sub [0] rfl) hw) (Or.inl rfl) 0 (κ := 2) rfl (by decide) (rfl : gCl[1]? = some (RX1, TX1, 2)) lk_vRX0_54 (by decide +kernel) rfl rfl (by decide) (by decide) (by decide) rfl rfl (gD D_X0_move_0 28 rfl) (fun s63 hq _ _ => ?_)
  replace hw := hq
  clear hq
  refine v_aload_n X 1 rfl (gD D_X0_move_0 29 rfl) rfl ?_
  refine v_iload_n X 2 rfl (gD D_X0_move_0 30 rfl) rfl ?_
  refine v_iload_n X 3 rfl (gD D_X0_move_0 31 rfl) rfl ?_
  refine v_aload_n X 4 rfl (gD D_X0_move_0 32 rfl) rfl ?_
  refine v_iload X 5 rfl (gD D_X0_move_0 33 rfl) ?_
  obtain ⟨k66, n67, k68, n69, h70, h71, hw⟩ := hw
  refine v_callVv X (As := [.int x1, .int x2, va_rf (some a3), .int x4]) (rest := []) (nA := 4) k66 n67 k68 n69 (fun ht => c_X0_write htr (ht.sub [2, 3] rfl) hw) (Or.inl rfl) 2 (κ := 1) rfl (by decide) (rfl : gCl[0]? = some (RX0, TX0, 8)) lk_vRX0_58 (by decide +kernel) rfl rfl (by decide) (by decide) (by decide) h70 h71 (gD D_X0_move_0 34 rfl) (fun s65 hq _ _ => ?_)
  replace hw := hq
  clear hq
  exact v_vret X hr hw (gD D_X0_move_0 35 rfl)
set_option maxRecDepth 100000 in
set_option maxHeartbeats 4000000 in
theorem c_X0_move {l : Launch} {G : GX} (htr : l.stackTraces = false) {k n : Nat} {σ : St} {a0 : Nat} {x1 : Int32} {x2 : Int32} {a3 : Nat} {x4 : Int32} {Q : St → Prop} (ht : tvOk σ [(some a0, 1), (some a3, 6)]) (hw : w_X0_move k n a0 x1 x2 a3 x4 σ Q) : MV l G 1 σ yX0_move cX0_move 6 3 k n [va_rf (some a0), .int x1, .int x2, va_rf (some a3), .int x4] Q := by
  unfold w_X0_move at hw
  refine m_start RX0 (by decide) htr ht (Nat.le_of_ble_eq_true rfl) rfl (lv := [(0, va_rf (some a0)), (1, .int x1), (2, .int x2), (3, va_rf (some a3)), (4, .int x4)]) (d := 1) (fun p e s m args below meth c X hr hin => ?_)
  refine v_iload_n X 1 rfl (gD D_X0_move_0 0 rfl) rfl ?_
  refine v_iconst X (-1) (gD D_X0_move_0 1 rfl) (by decide) ?_
  refine v_icmp_ne X 10 (gD D_X0_move_0 2 rfl) (by decide) (fun c51 => ?_) (fun c51 => ?_)
  · replace hw := hw.1 c51
    refine v_iload X 4 rfl (gD D_X0_move_0 5 rfl) ?_
    refine v_aload_n X 0 rfl (gD D_X0_move_0 6 rfl) rfl ?_
    refine v_getR X RX0 TX0 8 1 0 (by decide) rfl gin0 2 2 RX0 (Or.inl rfl) 0 2 rfl rfl rfl (by decide) lk_fRX0_23 (gD D_X0_move_0 7 rfl) (fun o52 eo52 => ?_)
    replace hw := hw o52 eo52
    refine v_iload_n X 1 rfl (gD D_X0_move_0 8 rfl) rfl ?_
    refine v_aload_n X 3 rfl (gD D_X0_move_0 9 rfl) rfl ?_
    refine v_getI X RX5 TX5 4 6 5 (by decide) rfl gin5 0 500 RX5 (Or.inl rfl) 2 rfl rfl (by decide) lk_fRX0_39 (gD D_X0_move_0 10 rfl) ?_
    obtain ⟨a53, rfl, hw⟩ := hw
    refine v_callVi X (As := [.int x1, .int (sI σ 500 a3)]) (rest := [.int x4]) (nA := 2) 0 0 k n (fun ht => c_X1_at htr (ht.sub [0] rfl) hw) (Or.inl rfl) 0 (κ := 2) rfl (by decide) (rfl : gCl[1]? = some (RX1, TX1, 2)) lk_vRX0_45 (by decide +kernel) rfl rfl (by simp [rf_cat, ct_i]) (by decide) (by decide) rfl rfl (gD D_X0_move_0 11 rfl) (fun x54 s55 hq _ _ => ?_)
    replace hw := hq
    clear hq
    refine v_mmin X lk_mRX0_49 lk_s_math_min lk_n_math lk_c_math_min (by decide) (gD D_X0_move_0 12 rfl) ?_
    exact v_sub [1, 2] [0, 1, 2, 3, 4] rfl rfl (t_X0_move_27 X hr hin htr  a0 x1 x2 a3 x4 (if x54 < x4 then x54 else x4) s55 k n hw)
  · replace hw := hw.2 c51
    refine v_iload X 4 rfl (gD D_X0_move_0 3 rfl) ?_
    refine v_goto X 27 (gD D_X0_move_0 4 rfl) (by decide) ?_
    exact v_sub [0, 1] [0, 1, 2, 3, 4] rfl rfl (t_X0_move_27 X hr hin htr  a0 x1 x2 a3 x4 x4 σ k n hw)
set_option maxRecDepth 100000 in
set_option maxHeartbeats 4000000 in
theorem t_X11_canTake_82 {p : Program} {l : Launch} {e : Env} {s : State} {m : MethodId} {args : Array Value} {below : List Frame} {meth : Method} {c : Code} {G : GX} {σ0 : St} {mc ms : Nat} {Q : Int32 → St → Prop} (X : VC p l (rmD 3 mc ms) s m args meth c G 3 mc ms 5 RX11 cX11_canTake) (hr : meth.sig.returnType = (some .boolean)) (hin : meth.name = yX11_canTake.name) (htr : l.stackTraces = false) : ∀ (a0 : Nat) (x1 : Int32) (a2 : Nat) (x4 : Int32) (σ : St), w_X11_canTake_82 Q  a0 x1 a2 x4 σ → V p l e (rmD 3 mc ms) s m args below meth c (MQ below (va_Qi Q (gB G 1 σ0) (GA G)) args s mc ms (GA G)) G 1 σ0 mc ms 5 σ 0 0 [(some a0, 12), (some a2, 4)] 82 [(0, va_rf (some a0)), (1, .int x1), (2, va_rf (some a2)), (4, .int x4)] [] := by
  intro a0 x1 a2 x4 σ hw
  unfold w_X11_canTake_82 at hw
  refine v_iload X 3 rfl (gD D_X11_canTake_0 45 rfl) ?_
  refine v_iconst X 5 (gD D_X11_canTake_0 46 rfl) (by decide) ?_
  refine v_icmp_eq X 99 (gD D_X11_canTake_0 47 rfl) (by decide) (fun c76 => ?_) (fun c76 => ?_)
  · replace hw := hw.1 c76
    refine v_iconst X 1 (gD D_X11_canTake_0 55 rfl) (by decide) ?_
    refine v_goto X 104 (gD D_X11_canTake_0 56 rfl) (by decide) ?_
    exact v_zret X hr (by decide) hw (gD D_X11_canTake_0 58 rfl)
  · replace hw := hw.2 c76
    refine v_aload_n X 0 rfl (gD D_X11_canTake_0 48 rfl) rfl ?_
    refine v_iload_n X 1 rfl (gD D_X11_canTake_0 49 rfl) rfl ?_
    refine v_iconst X 1 (gD D_X11_canTake_0 50 rfl) (by decide) ?_
    refine v_iadd X (gD D_X11_canTake_0 51 rfl) ?_
    refine v_aload_n X 2 rfl (gD D_X11_canTake_0 52 rfl) rfl ?_
    refine v_callVi X (As := [.int (x1 + 1), va_rf (some a2)]) (rest := []) (nA := 2) 0 0 0 0 (fun ht => c_X11_isBarredIn htr (ht.sub [0, 1] rfl) hw) (Or.inl rfl) 0 (κ := 12) rfl (by decide) (rfl : gCl[11]? = some (RX11, TX11, 19)) lk_vRX11_391 (by decide +kernel) rfl rfl (by decide) (by decide) (by decide) rfl rfl (gD D_X11_canTake_0 53 rfl) (fun x77 s78 hq _ _ => ?_)
    replace hw := hq
    clear hq
    refine v_if_ne X 103 (gD D_X11_canTake_0 54 rfl) (by decide) (fun c79 => ?_) (fun c79 => ?_)
    · replace hw := hw.1 c79
      refine v_iconst X 0 (gD D_X11_canTake_0 57 rfl) (by decide) ?_
      exact v_zret X hr (by decide) hw (gD D_X11_canTake_0 58 rfl)
    · replace hw := hw.2 c79
      refine v_iconst X 1 (gD D_X11_canTake_0 55 rfl) (by decide) ?_
      refine v_goto X 104 (gD D_X11_canTake_0 56 rfl) (by decide) ?_
      exact v_zret X hr (by decide) hw (gD D_X11_canTake_0 58 rfl)
set_option maxRecDepth 100000 in
set_option maxHeartbeats 4000000 in
theorem c_X11_canTake {l : Launch} {G : GX} (htr : l.stackTraces = false) {σ : St} {a0 : Nat} {x1 : Int32} {a2 : Nat} {x3 : Int32} {Q : Int32 → St → Prop} (ht : tvOk σ [(some a0, 12), (some a2, 4)]) (hw : w_X11_canTake a0 x1 a2 x3 σ Q) : MI l G 1 σ yX11_canTake cX11_canTake 5 (some .boolean) 3 0 0 [va_rf (some a0), .int x1, va_rf (some a2), .int x3] Q := by
  unfold w_X11_canTake at hw
  refine m_start RX11 (by decide) htr ht (Nat.le_of_ble_eq_true rfl) rfl (lv := [(0, va_rf (some a0)), (1, .int x1), (2, va_rf (some a2)), (3, .int x3)]) (d := 1) (fun p e s m args below meth c X hr hin => ?_)
  refine v_iload_n X 1 rfl (gD D_X11_canTake_0 0 rfl) rfl ?_
  refine v_callSi X (As := [.int x1]) (rest := []) (nA := 1) 0 0 0 0 (fun ht => c_X11_isSlot htr (ht.sub [] rfl) hw) (Or.inl rfl) lk_sRX11_79 (by decide +kernel) rfl rfl (by decide) (by decide) (by decide) rfl rfl (gD D_X11_canTake_0 1 rfl) (fun x51 s52 hq _ _ => ?_)
  replace hw := hq
  clear hq
  refine v_if_eq X 49 (gD D_X11_canTake_0 2 rfl) (by decide) (fun c53 => ?_) (fun c53 => ?_)
  · replace hw := hw.1 c53
    refine v_iconst X 0 (gD D_X11_canTake_0 25 rfl) (by decide) ?_
    exact v_zret X hr (by decide) hw (gD D_X11_canTake_0 26 rfl)
  · replace hw := hw.2 c53
    refine v_aload_n X 0 rfl (gD D_X11_canTake_0 3 rfl) rfl ?_
    refine v_getR X RX11 TX11 19 12 11 (by decide) rfl gin11 0 1100 RX11 (Or.inl rfl) 0 24 rfl rfl rfl (by decide) lk_fRX11_11 (gD D_X11_canTake_0 4 rfl) (fun o54 eo54 => ?_)
    replace hw := hw o54 eo54
    refine v_iload_n X 1 rfl (gD D_X11_canTake_0 5 rfl) rfl ?_
    obtain ⟨a55, rfl, hw⟩ := hw
    obtain ⟨h56, hw⟩ := hw
    refine v_aald X 0 10 rfl (by decide) h56 (gD D_X11_canTake_0 6 rfl) (fun o57 eo57 => ?_)
    replace hw := hw o57 eo57
    obtain ⟨a58, rfl, hw⟩ := hw
    refine v_getR X RX9 TX9 5 10 9 (by decide) rfl gin9 2 902 RX9 (Or.inl rfl) 0 4 rfl rfl rfl (by decide) lk_fRX11_93 (gD D_X11_canTake_0 7 rfl) (fun o59 eo59 => ?_)
    replace hw := hw o59 eo59
    refine v_ifnonnull X 49 (gD D_X11_canTake_0 8 rfl) (by decide) (fun a61 c60 => ?_) (fun c60 => ?_)
    · replace hw := hw.2 a61 c60
      subst c60
      refine v_iconst X 0 (gD D_X11_canTake_0 25 rfl) (by decide) ?_
      exact v_zret X hr (by decide) hw (gD D_X11_canTake_0 26 rfl)
    · replace hw := hw.1 c60
      subst c60
      refine v_aload_n X 0 rfl (gD D_X11_canTake_0 9 rfl) rfl ?_
      refine v_getR X RX11 TX11 19 12 11 (by decide) rfl gin11 0 1100 RX11 (Or.inl rfl) 3 24 rfl rfl rfl (by decide) lk_fRX11_11 (gD D_X11_canTake_0 10 rfl) (fun o62 eo62 => ?_)
      replace hw := hw o62 eo62
      refine v_iload_n X 1 rfl (gD D_X11_canTake_0 11 rfl) rfl ?_
      obtain ⟨a63, rfl, hw⟩ := hw
      obtain ⟨h64, hw⟩ := hw
      refine v_aald X 0 10 rfl (by decide) h64 (gD D_X11_canTake_0 12 rfl) (fun o65 eo65 => ?_)
      replace hw := hw o65 eo65
      obtain ⟨a66, rfl, hw⟩ := hw
      refine v_getI X RX9 TX9 5 10 9 (by decide) rfl gin9 0 900 RX9 (Or.inl rfl) 0 rfl rfl (by decide) lk_fRX11_103 (gD D_X11_canTake_0 13 rfl) ?_
      refine v_aload_n X 2 rfl (gD D_X11_canTake_0 14 rfl) rfl ?_
      refine v_getI X RX3 TX3 6 4 3 (by decide) rfl gin3 1 301 RX3 (Or.inl rfl) 6 rfl rfl (by decide) lk_fRX11_113 (gD D_X11_canTake_0 15 rfl) ?_
      refine v_icmp_ne X 49 (gD D_X11_canTake_0 16 rfl) (by decide) (fun c67 => ?_) (fun c67 => ?_)
      · replace hw := hw.1 c67
        refine v_iconst X 0 (gD D_X11_canTake_0 25 rfl) (by decide) ?_
        exact v_zret X hr (by decide) hw (gD D_X11_canTake_0 26 rfl)
      · replace hw := hw.2 c67
        refine v_aload_n X 0 rfl (gD D_X11_canTake_0 17 rfl) rfl ?_
        refine v_iload_n X 1 rfl (gD D_X11_canTake_0 18 rfl) rfl ?_
        refine v_callVi X (As := [.int x1]) (rest := []) (nA := 1) 0 0 0 0 (fun ht => c_X11_freeRoom htr (ht.sub [5] rfl) hw) (Or.inl rfl) 5 (κ := 12) rfl (by decide) (rfl : gCl[11]? = some (RX11, TX11, 19)) lk_vRX11_186 (by decide +kernel) rfl rfl (by decide) (by decide) (by decide) rfl rfl (gD D_X11_canTake_0 19 rfl) (fun x68 s69 hq _ _ => ?_)
        replace hw := hq
        clear hq
        refine v_iload_n X 3 rfl (gD D_X11_canTake_0 20 rfl) rfl ?_
        refine v_aload_n X 2 rfl (gD D_X11_canTake_0 21 rfl) rfl ?_
        refine v_getI X RX3 TX3 6 4 3 (by decide) rfl gin3 2 302 RX3 (Or.inl rfl) 6 rfl rfl (by decide) lk_fRX11_127 (gD D_X11_canTake_0 22 rfl) ?_
        refine v_imul X (gD D_X11_canTake_0 23 rfl) ?_
        refine v_icmp_ge X 51 (gD D_X11_canTake_0 24 rfl) (by decide) (fun c70 => ?_) (fun c70 => ?_)
        · replace hw := hw.1 c70
          refine v_iload_n X 1 rfl (gD D_X11_canTake_0 27 rfl) rfl ?_
          refine v_bipush X 6 (gD D_X11_canTake_0 28 rfl) (by decide) ?_
          refine v_irem X (gD D_X11_canTake_0 29 rfl) (by decide) ?_
          refine v_topi (fun x71 ex71 => ?_)
          replace hw := hw x71 ex71
          refine v_istore X [(4, .int x71), (0, va_rf (some a0)), (1, .int x1), (2, va_rf (some a2)), (3, .int x3)] (gD D_X11_canTake_0 30 rfl) (by decide) rfl ?_
          refine v_aload_n X 1 rfl (gD D_X11_canTake_0 31 rfl) rfl ?_
          refine v_iload_n X 2 rfl (gD D_X11_canTake_0 32 rfl) rfl ?_
          refine v_aload_n X 3 rfl (gD D_X11_canTake_0 33 rfl) rfl ?_
          refine v_callVi X (As := [.int x1, va_rf (some a2)]) (rest := []) (nA := 2) 0 0 0 0 (fun ht => c_X11_isBarredIn htr (ht.sub [5, 6] rfl) hw) (Or.inl rfl) 5 (κ := 12) rfl (by decide) (rfl : gCl[11]? = some (RX11, TX11, 19)) lk_vRX11_391 (by decide +kernel) rfl rfl (by decide) (by decide) (by decide) rfl rfl (gD D_X11_canTake_0 34 rfl) (fun x72 s73 hq _ _ => ?_)
          replace hw := hq
          clear hq
          refine v_if_ne X 103 (gD D_X11_canTake_0 35 rfl) (by decide) (fun c74 => ?_) (fun c74 => ?_)
          · replace hw := hw.1 c74
            refine v_iconst X 0 (gD D_X11_canTake_0 57 rfl) (by decide) ?_
            exact v_zret X hr (by decide) hw (gD D_X11_canTake_0 58 rfl)
          · replace hw := hw.2 c74
            refine v_iload X 0 rfl (gD D_X11_canTake_0 36 rfl) ?_
            refine v_if_eq X 82 (gD D_X11_canTake_0 37 rfl) (by decide) (fun c75 => ?_) (fun c75 => ?_)
            · replace hw := hw.1 c75
              exact v_sub [5, 6] [1, 2, 3, 0] rfl rfl (t_X11_canTake_82 X hr hin htr  a0 x1 a2 x71 s73 hw)
            · replace hw := hw.2 c75
              refine v_aload_n X 1 rfl (gD D_X11_canTake_0 38 rfl) rfl ?_
              refine v_iload_n X 2 rfl (gD D_X11_canTake_0 39 rfl) rfl ?_
              refine v_iconst X 1 (gD D_X11_canTake_0 40 rfl) (by decide) ?_
              refine v_isub X (gD D_X11_canTake_0 41 rfl) ?_
              refine v_aload_n X 3 rfl (gD D_X11_canTake_0 42 rfl) rfl ?_
              refine v_callVi X (As := [.int (x1 - 1), va_rf (some a2)]) (rest := []) (nA := 2) 0 0 0 0 (fun ht => c_X11_isBarredIn htr (ht.sub [5, 6] rfl) hw) (Or.inl rfl) 5 (κ := 12) rfl (by decide) (rfl : gCl[11]? = some (RX11, TX11, 19)) lk_vRX11_391 (by decide +kernel) rfl rfl (by decide) (by decide) (by decide) rfl rfl (gD D_X11_canTake_0 43 rfl) (fun x80 s81 hq _ _ => ?_)
              replace hw := hq
              clear hq
              refine v_if_ne X 103 (gD D_X11_canTake_0 44 rfl) (by decide) (fun c82 => ?_) (fun c82 => ?_)
              · replace hw := hw.1 c82
                refine v_iconst X 0 (gD D_X11_canTake_0 57 rfl) (by decide) ?_
                exact v_zret X hr (by decide) hw (gD D_X11_canTake_0 58 rfl)
              · replace hw := hw.2 c82
                exact v_sub [5, 6] [1, 2, 3, 0] rfl rfl (t_X11_canTake_82 X hr hin htr  a0 x1 a2 x71 s81 hw)
        · replace hw := hw.2 c70
          refine v_iconst X 0 (gD D_X11_canTake_0 25 rfl) (by decide) ?_
          exact v_zret X hr (by decide) hw (gD D_X11_canTake_0 26 rfl)
set_option maxRecDepth 100000 in
set_option maxHeartbeats 4000000 in
theorem t_X11_dropEmptyHoldings_10 {p : Program} {l : Launch} {e : Env} {s : State} {m : MethodId} {args : Array Value} {below : List Frame} {meth : Method} {c : Code} {G : GX} {σ0 : St} {mc ms : Nat} {Q : St → Prop} (X : VC p l (rmD 3 mc ms) s m args meth c G 3 mc ms 2 RX11 cX11_dropEmptyHoldings) (hr : meth.sig.returnType = none) (hin : meth.name = yX11_dropEmptyHoldings.name) (htr : l.stackTraces = false) : ∀ (f : Nat) (a0 : Nat) (x1 : Int32) (σ : St), w_X11_dropEmptyHoldings_10 Q  f a0 x1 σ → V p l e (rmD 3 mc ms) s m args below meth c (MQ below (va_Qv Q (gB G 1 σ0) (GA G)) args s mc ms (GA G)) G 1 σ0 mc ms 2 σ 0 0 [(some a0, 12)] 10 [(0, va_rf (some a0)), (1, .int x1)] [] := by
  intro f
  induction f with
  | zero => intro a0 x1 σ hw; exact hw.elim
  | succ f ih =>
    intro a0 x1 σ hw
    unfold w_X11_dropEmptyHoldings_10 at hw
    refine v_iload_n X 1 rfl (gD D_X11_dropEmptyHoldings_0 6 rfl) rfl ?_
    refine v_if_lt X 46 (gD D_X11_dropEmptyHoldings_0 7 rfl) (by decide) (fun c56 => ?_) (fun c56 => ?_)
    · replace hw := hw.1 c56
      exact v_vret X hr hw (gD D_X11_dropEmptyHoldings_0 22 rfl)
    · replace hw := hw.2 c56
      refine v_aload_n X 0 rfl (gD D_X11_dropEmptyHoldings_0 8 rfl) rfl ?_
      refine v_getR X RX11 TX11 19 12 11 (by decide) rfl gin11 7 1107 RX11 (Or.inl rfl) 0 30 rfl rfl rfl (by decide) lk_fRX11_43 (gD D_X11_dropEmptyHoldings_0 9 rfl) (fun o57 eo57 => ?_)
      replace hw := hw o57 eo57
      refine v_iload_n X 1 rfl (gD D_X11_dropEmptyHoldings_0 10 rfl) rfl ?_
      obtain ⟨a58, rfl, hw⟩ := hw
      refine v_callVu X (As := [.int x1]) (rest := []) (nA := 1) 0 0 0 0 (fun ht => c_Jx4a65c_get_915e3 htr (ht.sub [0] rfl) hw) (Or.inl rfl) 0 (κ := 30) rfl (by decide) (rfl : gCl[13]? = some (RJx4a65c, TJx4a65c, 3)) lk_vRX11_153 (by decide +kernel) rfl rfl (by decide) (by decide) (by decide) rfl rfl (gD D_X11_dropEmptyHoldings_0 11 rfl) (fun o59 s60 hq _ _ => ?_)
      replace hw := hq
      clear hq
      obtain ⟨a61, rfl, hw⟩ := hw
      obtain ⟨h62, hw⟩ := hw
      refine v_cast X RX2 TX2 6 3 2 h62 (by decide) rfl lk_kRX11_262 (gD D_X11_dropEmptyHoldings_0 12 rfl) ?_
      refine v_getI X RX2 TX2 6 3 2 (by decide) rfl gin2 4 204 RX2 (Or.inl rfl) 0 rfl rfl (by decide) lk_fRX11_271 (gD D_X11_dropEmptyHoldings_0 13 rfl) ?_
      refine v_if_gt X 40 (gD D_X11_dropEmptyHoldings_0 14 rfl) (by decide) (fun c63 => ?_) (fun c63 => ?_)
      · replace hw := hw.1 c63
        refine v_iinc X (x1 + (-1)) 1 rfl [(1, .int (x1 + (-1))), (0, va_rf (some a0))] (gD D_X11_dropEmptyHoldings_0 20 rfl) rfl (by decide) rfl ?_
        refine v_goto X 10 (gD D_X11_dropEmptyHoldings_0 21 rfl) (by decide) ?_
        exact v_sub [2] [1, 0] rfl rfl (ih a0 (x1 + (-1)) s60 hw)
      · replace hw := hw.2 c63
        refine v_aload_n X 0 rfl (gD D_X11_dropEmptyHoldings_0 15 rfl) rfl ?_
        refine v_getR X RX11 TX11 19 12 11 (by decide) rfl gin11 7 1107 RX11 (Or.inl rfl) 2 30 rfl rfl rfl (by decide) lk_fRX11_43 (gD D_X11_dropEmptyHoldings_0 16 rfl) (fun o64 eo64 => ?_)
        replace hw := hw o64 eo64
        refine v_iload_n X 1 rfl (gD D_X11_dropEmptyHoldings_0 17 rfl) rfl ?_
        obtain ⟨a65, rfl, hw⟩ := hw
        refine v_callVu X (As := [.int x1]) (rest := []) (nA := 1) 0 0 0 0 (fun ht => c_Jx4a65c_remove_915e3 htr (ht.sub [0] rfl) hw) (Or.inl rfl) 0 (κ := 30) rfl (by decide) (rfl : gCl[13]? = some (RJx4a65c, TJx4a65c, 3)) lk_vRX11_425 (by decide +kernel) rfl rfl (by decide) (by decide) (by decide) rfl rfl (gD D_X11_dropEmptyHoldings_0 18 rfl) (fun o66 s67 hq _ _ => ?_)
        replace hw := hq
        clear hq
        refine v_pop X (gD D_X11_dropEmptyHoldings_0 19 rfl) (rf_cat _) ?_
        refine v_iinc X (x1 + (-1)) 1 rfl [(1, .int (x1 + (-1))), (0, va_rf (some a0))] (gD D_X11_dropEmptyHoldings_0 20 rfl) rfl (by decide) rfl ?_
        refine v_goto X 10 (gD D_X11_dropEmptyHoldings_0 21 rfl) (by decide) ?_
        exact v_sub [3] [1, 0] rfl rfl (ih a0 (x1 + (-1)) s67 hw)
set_option maxRecDepth 100000 in
set_option maxHeartbeats 4000000 in
theorem c_X11_dropEmptyHoldings {l : Launch} {G : GX} (htr : l.stackTraces = false) {σ : St} {a0 : Nat} {Q : St → Prop} (ht : tvOk σ [(some a0, 12)]) (hw : w_X11_dropEmptyHoldings a0 σ Q) : MV l G 1 σ yX11_dropEmptyHoldings cX11_dropEmptyHoldings 2 3 0 0 [va_rf (some a0)] Q := by
  unfold w_X11_dropEmptyHoldings at hw
  refine m_start RX11 (by decide) htr ht (Nat.le_of_ble_eq_true rfl) rfl (lv := [(0, va_rf (some a0))]) (d := 1) (fun p e s m args below meth c X hr hin => ?_)
  refine v_aload_n X 0 rfl (gD D_X11_dropEmptyHoldings_0 0 rfl) rfl ?_
  refine v_getR X RX11 TX11 19 12 11 (by decide) rfl gin11 7 1107 RX11 (Or.inl rfl) 0 30 rfl rfl rfl (by decide) lk_fRX11_43 (gD D_X11_dropEmptyHoldings_0 1 rfl) (fun o51 eo51 => ?_)
  replace hw := hw o51 eo51
  obtain ⟨a52, rfl, hw⟩ := hw
  refine v_callVi X (As := []) (rest := []) (nA := 0) 0 0 0 0 (fun ht => c_Jx4a65c_size_8abf5 htr (ht.sub [0] rfl) hw) (Or.inl rfl) 0 (κ := 30) rfl (by decide) (rfl : gCl[13]? = some (RJx4a65c, TJx4a65c, 3)) lk_vRX11_145 (by decide +kernel) rfl rfl (by decide) (by decide) (by decide) rfl rfl (gD D_X11_dropEmptyHoldings_0 2 rfl) (fun x53 s54 hq _ _ => ?_)
  replace hw := hq
  clear hq
  refine v_iconst X 1 (gD D_X11_dropEmptyHoldings_0 3 rfl) (by decide) ?_
  refine v_isub X (gD D_X11_dropEmptyHoldings_0 4 rfl) ?_
  refine v_topi (fun x55 ex55 => ?_)
  replace hw := hw x55 ex55
  refine v_istore_n X [(1, .int x55), (0, va_rf (some a0))] (gD D_X11_dropEmptyHoldings_0 5 rfl) rfl (by decide) rfl ?_
  obtain ⟨f68, hw⟩ := hw
  exact v_sub [1] [1, 0] rfl rfl (t_X11_dropEmptyHoldings_10 X hr hin htr  f68 a0 x55 s54 hw)
set_option maxRecDepth 100000 in
set_option maxHeartbeats 4000000 in
theorem t_X11_face_126 {p : Program} {l : Launch} {e : Env} {s : State} {m : MethodId} {args : Array Value} {below : List Frame} {meth : Method} {c : Code} {G : GX} {σ0 : St} {mc ms : Nat} {Q : St → Prop} {Y : Nat → St → Prop} (X : VC p l (rmD 3 mc ms) s m args meth c G 3 mc ms 7 RX11 cX11_face) (hr : meth.sig.returnType = none) (hin : meth.name = yX11_face.name) (htr : l.stackTraces = false) (hex : ∀ x ∈ c.exceptionTable.toList, False) : ∀ (a0 : Nat) (x1 : Int32) (x3 : Int32) (x4 : Int32) (o6 : Option Nat) (σ : St) (k n : Nat), w_X11_face_126 Q Y  a0 x1 x3 x4 o6 σ k n → V p l e (rmD 3 mc ms) s m args below meth c (vx_MQ below (va_Qv Q (gB G 1 σ0) (GA G)) (gX G 1 σ0 Y) args s mc ms (GA G)) G 1 σ0 mc ms 7 σ k n [(some a0, 12), (o6, 4)] 126 [(0, va_rf (some a0)), (1, .int x1), (3, .int x3), (4, .int x4), (6, va_rf o6)] [] := by
  intro a0 x1 x3 x4 o6 σ k n hw
  unfold w_X11_face_126 at hw
  refine v_aload_n X 0 rfl (gD D_X11_face_0 62 rfl) rfl ?_
  refine v_getR X RX11 TX11 19 12 11 (by decide) rfl gin11 0 1100 RX11 (Or.inl rfl) 0 24 rfl rfl rfl (by decide) lk_fRX11_11 (gD D_X11_face_0 63 rfl) (fun o70 eo70 => ?_)
  replace hw := hw o70 eo70
  refine v_iload_n X 1 rfl (gD D_X11_face_0 64 rfl) rfl ?_
  obtain ⟨a71, rfl, hw⟩ := hw
  obtain ⟨h72, hw⟩ := hw
  refine v_aald X 0 10 rfl (by decide) h72 (gD D_X11_face_0 65 rfl) (fun o73 eo73 => ?_)
  replace hw := hw o73 eo73
  refine v_aload X 4 rfl (gD D_X11_face_0 66 rfl) ?_
  obtain ⟨a74, rfl, hw⟩ := hw
  refine v_putR X RX9 TX9 5 10 9 (by decide) rfl gin9 2 902 tyX9 tyX9_ok nmX9 RX9 (Or.inl rfl) 0 rfl (fun b hb => ⟨3, by rw [← hb]; rfl⟩) rfl (by decide) (Or.inl rfl) lk_fRX11_93 rfl rfl rfl (gD D_X11_face_0 67 rfl) (fun s75 es75 => ?_)
  replace hw := hw s75 es75
  refine v_aload_n X 0 rfl (gD D_X11_face_0 68 rfl) rfl ?_
  refine v_getR X RX11 TX11 19 12 11 (by decide) rfl gin11 0 1100 RX11 (Or.inl rfl) 2 24 rfl rfl rfl (by decide) lk_fRX11_11 (gD D_X11_face_0 69 rfl) (fun o76 eo76 => ?_)
  replace hw := hw o76 eo76
  refine v_iload_n X 1 rfl (gD D_X11_face_0 70 rfl) rfl ?_
  obtain ⟨a77, rfl, hw⟩ := hw
  obtain ⟨h78, hw⟩ := hw
  refine v_aald X 0 10 rfl (by decide) h78 (gD D_X11_face_0 71 rfl) (fun o79 eo79 => ?_)
  replace hw := hw o79 eo79
  refine v_iload_n X 2 rfl (gD D_X11_face_0 72 rfl) rfl ?_
  obtain ⟨a80, rfl, hw⟩ := hw
  refine v_putI X RX9 TX9 5 10 9 (by decide) rfl gin9 3 903 tyX9 tyX9_ok nmX9 RX9 (Or.inl rfl) 0 rfl .int (int_fit _) rfl (by decide) (Or.inl rfl) lk_fRX11_114 rfl rfl (gD D_X11_face_0 73 rfl) (fun s81 es81 => ?_)
  replace hw := hw s81 es81
  refine v_aload_n X 0 rfl (gD D_X11_face_0 74 rfl) rfl ?_
  refine v_getR X RX11 TX11 19 12 11 (by decide) rfl gin11 0 1100 RX11 (Or.inl rfl) 4 24 rfl rfl rfl (by decide) lk_fRX11_11 (gD D_X11_face_0 75 rfl) (fun o82 eo82 => ?_)
  replace hw := hw o82 eo82
  refine v_iload_n X 1 rfl (gD D_X11_face_0 76 rfl) rfl ?_
  obtain ⟨a83, rfl, hw⟩ := hw
  obtain ⟨h84, hw⟩ := hw
  refine v_aald X 0 10 rfl (by decide) h84 (gD D_X11_face_0 77 rfl) (fun o85 eo85 => ?_)
  replace hw := hw o85 eo85
  refine v_iload X 3 rfl (gD D_X11_face_0 78 rfl) ?_
  obtain ⟨a86, rfl, hw⟩ := hw
  refine v_putI X RX9 TX9 5 10 9 (by decide) rfl gin9 4 904 tyX9 tyX9_ok nmX9 RX9 (Or.inl rfl) 0 rfl .int (int_fit _) rfl (by decide) (Or.inl rfl) lk_fRX11_117 rfl rfl (gD D_X11_face_0 79 rfl) (fun s87 es87 => ?_)
  replace hw := hw s87 es87
  exact v_X (v_vret X hr hw (gD D_X11_face_0 80 rfl))
set_option maxRecDepth 100000 in
set_option maxHeartbeats 4000000 in
theorem t_X11_face_86 {p : Program} {l : Launch} {e : Env} {s : State} {m : MethodId} {args : Array Value} {below : List Frame} {meth : Method} {c : Code} {G : GX} {σ0 : St} {mc ms : Nat} {Q : St → Prop} {Y : Nat → St → Prop} (X : VC p l (rmD 3 mc ms) s m args meth c G 3 mc ms 7 RX11 cX11_face) (hr : meth.sig.returnType = none) (hin : meth.name = yX11_face.name) (htr : l.stackTraces = false) (hex : ∀ x ∈ c.exceptionTable.toList, False) : ∀ (a0 : Nat) (x1 : Int32) (x3 : Int32) (x4 : Int32) (os0 : Option Nat) (σ : St) (k n : Nat), w_X11_face_86 Q Y  a0 x1 x3 x4 os0 σ k n → V p l e (rmD 3 mc ms) s m args below meth c (vx_MQ below (va_Qv Q (gB G 1 σ0) (GA G)) (gX G 1 σ0 Y) args s mc ms (GA G)) G 1 σ0 mc ms 7 σ k n [(some a0, 12), (os0, 4)] 86 [(0, va_rf (some a0)), (1, .int x1), (3, .int x3), (4, .int x4)] [va_rf os0] := by
  intro a0 x1 x3 x4 os0 σ k n hw
  unfold w_X11_face_86 at hw
  refine v_astore X [(6, va_rf os0), (0, va_rf (some a0)), (1, .int x1), (3, .int x3), (4, .int x4)] (gD D_X11_face_0 43 rfl) (by decide) rfl ?_
  refine v_aload_n X 1 rfl (gD D_X11_face_0 44 rfl) rfl ?_
  refine v_iload_n X 2 rfl (gD D_X11_face_0 45 rfl) rfl ?_
  refine v_callVi X (As := [.int x1]) (rest := []) (nA := 1) 0 0 k n (fun ht => c_X11_isUsed htr (ht.sub [0] rfl) hw) (Or.inl rfl) 0 (κ := 12) rfl (by decide) (rfl : gCl[11]? = some (RX11, TX11, 19)) lk_vRX11_97 (by decide +kernel) rfl rfl (by decide) (by decide) (by decide) rfl rfl (gD D_X11_face_0 46 rfl) (fun x65 s66 hq _ _ => ?_)
  replace hw := hq
  clear hq
  refine v_if_ne X 118 (gD D_X11_face_0 47 rfl) (by decide) (fun c67 => ?_) (fun c67 => ?_)
  · replace hw := hw.1 c67
    exact v_throw X hex 3 (by decide +kernel) lk_xRX11_100 lk_xi_3 lk_xaRX11_102 lk_xgRX11_100_102 (gD D_X11_face_0 58 rfl) (gD D_X11_face_0 59 rfl) (gD D_X11_face_0 60 rfl) (gD D_X11_face_0 61 rfl) (by decide) hw
  · replace hw := hw.2 c67
    refine v_aload X 0 rfl (gD D_X11_face_0 48 rfl) ?_
    refine v_ifnull X 126 (gD D_X11_face_0 49 rfl) (by decide) (fun c68 => ?_) (fun a69 c68 => ?_)
    · replace hw := hw.1 c68
      subst c68
      refine v_nul 4 ?_
      exact v_sub [1, 0] [1, 2, 3, 4, 0] rfl rfl (t_X11_face_126 X hr hin htr hex  a0 x1 x3 x4 none s66 k n hw)
    · replace hw := hw.2 a69 c68
      subst c68
      refine v_aload X 0 rfl (gD D_X11_face_0 50 rfl) ?_
      refine v_getI X RX3 TX3 6 4 3 (by decide) rfl gin3 1 301 RX3 (Or.inl rfl) 1 rfl rfl (by decide) lk_fRX11_113 (gD D_X11_face_0 51 rfl) ?_
      refine v_aload_n X 1 rfl (gD D_X11_face_0 52 rfl) rfl ?_
      refine v_getR X RX11 TX11 19 12 11 (by decide) rfl gin11 0 1100 RX11 (Or.inl rfl) 0 24 rfl rfl rfl (by decide) lk_fRX11_11 (gD D_X11_face_0 53 rfl) (fun o88 eo88 => ?_)
      replace hw := hw o88 eo88
      refine v_iload_n X 2 rfl (gD D_X11_face_0 54 rfl) rfl ?_
      obtain ⟨a89, rfl, hw⟩ := hw
      obtain ⟨h90, hw⟩ := hw
      refine v_aald X 0 10 rfl (by decide) h90 (gD D_X11_face_0 55 rfl) (fun o91 eo91 => ?_)
      replace hw := hw o91 eo91
      obtain ⟨a92, rfl, hw⟩ := hw
      refine v_getI X RX9 TX9 5 10 9 (by decide) rfl gin9 0 900 RX9 (Or.inl rfl) 0 rfl rfl (by decide) lk_fRX11_103 (gD D_X11_face_0 56 rfl) ?_
      refine v_icmp_eq X 126 (gD D_X11_face_0 57 rfl) (by decide) (fun c93 => ?_) (fun c93 => ?_)
      · replace hw := hw.1 c93
        exact v_sub [2, 3] [1, 2, 3, 4, 0] rfl rfl (t_X11_face_126 X hr hin htr hex  a0 x1 x3 x4 (some a69) s66 k n hw)
      · replace hw := hw.2 c93
        exact v_throw X hex 3 (by decide +kernel) lk_xRX11_100 lk_xi_3 lk_xaRX11_102 lk_xgRX11_100_102 (gD D_X11_face_0 58 rfl) (gD D_X11_face_0 59 rfl) (gD D_X11_face_0 60 rfl) (gD D_X11_face_0 61 rfl) (by decide) hw
set_option maxRecDepth 100000 in
set_option maxHeartbeats 4000000 in
theorem t_X11_face_38 {p : Program} {l : Launch} {e : Env} {s : State} {m : MethodId} {args : Array Value} {below : List Frame} {meth : Method} {c : Code} {G : GX} {σ0 : St} {mc ms : Nat} {Q : St → Prop} {Y : Nat → St → Prop} (X : VC p l (rmD 3 mc ms) s m args meth c G 3 mc ms 7 RX11 cX11_face) (hr : meth.sig.returnType = none) (hin : meth.name = yX11_face.name) (htr : l.stackTraces = false) (hex : ∀ x ∈ c.exceptionTable.toList, False) : ∀ (a0 : Nat) (x1 : Int32) (x2 : Int32) (x3 : Int32) (x4 : Int32) (xs0 : Int32) (σ : St) (k n : Nat), w_X11_face_38 Q Y  a0 x1 x2 x3 x4 xs0 σ k n → V p l e (rmD 3 mc ms) s m args below meth c (vx_MQ below (va_Qv Q (gB G 1 σ0) (GA G)) (gX G 1 σ0 Y) args s mc ms (GA G)) G 1 σ0 mc ms 7 σ k n [(some a0, 12)] 38 [(0, va_rf (some a0)), (1, .int x1), (2, .int x2), (3, .int x3), (4, .int x4)] [.int xs0] := by
  intro a0 x1 x2 x3 x4 xs0 σ k n hw
  unfold w_X11_face_38 at hw
  refine v_istore X [(5, .int xs0), (0, va_rf (some a0)), (1, .int x1), (2, .int x2), (3, .int x3), (4, .int x4)] (gD D_X11_face_0 19 rfl) (by decide) rfl ?_
  refine v_iload_n X 4 rfl (gD D_X11_face_0 20 rfl) rfl ?_
  refine v_iconst X 0 (gD D_X11_face_0 21 rfl) (by decide) ?_
  refine v_iload X 0 rfl (gD D_X11_face_0 22 rfl) ?_
  refine v_callSi X (As := [.int x3, .int 0, .int xs0]) (rest := []) (nA := 3) 0 0 k n (fun ht => c_X11_isWithin htr (ht.sub [] rfl) hw) (Or.inl rfl) lk_sRX11_86 (by decide +kernel) rfl rfl (by decide) (by decide) (by decide) rfl rfl (gD D_X11_face_0 23 rfl) (fun x56 s57 hq _ _ => ?_)
  replace hw := hq
  clear hq
  refine v_if_eq X 61 (gD D_X11_face_0 24 rfl) (by decide) (fun c58 => ?_) (fun c58 => ?_)
  · replace hw := hw.1 c58
    exact v_throw X hex 2 (by decide +kernel) lk_xRX11_90 lk_xi_2 lk_xaRX11_92 lk_xgRX11_90_92 (gD D_X11_face_0 30 rfl) (gD D_X11_face_0 31 rfl) (gD D_X11_face_0 32 rfl) (gD D_X11_face_0 33 rfl) (by decide) hw
  · replace hw := hw.2 c58
    refine v_iload X 5 rfl (gD D_X11_face_0 25 rfl) ?_
    refine v_iload_n X 4 rfl (gD D_X11_face_0 26 rfl) rfl ?_
    refine v_iload X 0 rfl (gD D_X11_face_0 27 rfl) ?_
    refine v_callSi X (As := [.int x4, .int x3, .int xs0]) (rest := []) (nA := 3) 0 0 k n (fun ht => c_X11_isWithin htr (ht.sub [] rfl) hw) (Or.inl rfl) lk_sRX11_86 (by decide +kernel) rfl rfl (by decide) (by decide) (by decide) rfl rfl (gD D_X11_face_0 28 rfl) (fun x59 s60 hq _ _ => ?_)
    replace hw := hq
    clear hq
    refine v_if_ne X 69 (gD D_X11_face_0 29 rfl) (by decide) (fun c61 => ?_) (fun c61 => ?_)
    · replace hw := hw.1 c61
      refine v_iload_n X 3 rfl (gD D_X11_face_0 34 rfl) rfl ?_
      refine v_callSi X (As := [.int x2]) (rest := []) (nA := 1) 0 0 k n (fun ht => c_X11_isItem htr (ht.sub [] rfl) hw) (Or.inl rfl) lk_sRX11_110 (by decide +kernel) rfl rfl (by decide) (by decide) (by decide) rfl rfl (gD D_X11_face_0 35 rfl) (fun x62 s63 hq _ _ => ?_)
      replace hw := hq
      clear hq
      refine v_if_eq X 85 (gD D_X11_face_0 36 rfl) (by decide) (fun c64 => ?_) (fun c64 => ?_)
      · replace hw := hw.1 c64
        refine v_null X (gD D_X11_face_0 42 rfl) ?_
        refine v_nul 4 ?_
        exact v_sub [1, 0] [1, 2, 4, 5] rfl rfl (t_X11_face_86 X hr hin htr hex  a0 x1 x3 x4 none s63 k n hw)
      · replace hw := hw.2 c64
        refine v_aload_n X 1 rfl (gD D_X11_face_0 37 rfl) rfl ?_
        refine v_getR X RX11 TX11 19 12 11 (by decide) rfl gin11 1 1101 RX11 (Or.inl rfl) 0 25 rfl rfl rfl (by decide) lk_fRX11_17 (gD D_X11_face_0 38 rfl) (fun o94 eo94 => ?_)
        replace hw := hw o94 eo94
        refine v_iload_n X 3 rfl (gD D_X11_face_0 39 rfl) rfl ?_
        obtain ⟨a95, rfl, hw⟩ := hw
        obtain ⟨h96, hw⟩ := hw
        refine v_aald X 0 4 rfl (by decide) h96 (gD D_X11_face_0 40 rfl) (fun o97 eo97 => ?_)
        replace hw := hw o97 eo97
        refine v_goto X 86 (gD D_X11_face_0 41 rfl) (by decide) ?_
        exact v_sub [2, 0] [1, 2, 4, 5] rfl rfl (t_X11_face_86 X hr hin htr hex  a0 x1 x3 x4 o97 s63 k n hw)
    · replace hw := hw.2 c61
      exact v_throw X hex 2 (by decide +kernel) lk_xRX11_90 lk_xi_2 lk_xaRX11_92 lk_xgRX11_90_92 (gD D_X11_face_0 30 rfl) (gD D_X11_face_0 31 rfl) (gD D_X11_face_0 32 rfl) (gD D_X11_face_0 33 rfl) (by decide) hw
set_option maxRecDepth 100000 in
set_option maxHeartbeats 4000000 in
theorem t_X11_face_27 {p : Program} {l : Launch} {e : Env} {s : State} {m : MethodId} {args : Array Value} {below : List Frame} {meth : Method} {c : Code} {G : GX} {σ0 : St} {mc ms : Nat} {Q : St → Prop} {Y : Nat → St → Prop} (X : VC p l (rmD 3 mc ms) s m args meth c G 3 mc ms 7 RX11 cX11_face) (hr : meth.sig.returnType = none) (hin : meth.name = yX11_face.name) (htr : l.stackTraces = false) (hex : ∀ x ∈ c.exceptionTable.toList, False) : ∀ (a0 : Nat) (x1 : Int32) (x2 : Int32) (x3 : Int32) (x4 : Int32) (σ : St) (k n : Nat), w_X11_face_27 Q Y  a0 x1 x2 x3 x4 σ k n → V p l e (rmD 3 mc ms) s m args below meth c (vx_MQ below (va_Qv Q (gB G 1 σ0) (GA G)) (gX G 1 σ0 Y) args s mc ms (GA G)) G 1 σ0 mc ms 7 σ k n [(some a0, 12)] 27 [(0, va_rf (some a0)), (1, .int x1), (2, .int x2), (3, .int x3), (4, .int x4)] [] := by
  intro a0 x1 x2 x3 x4 σ k n hw
  unfold w_X11_face_27 at hw
  refine v_iload_n X 2 rfl (gD D_X11_face_0 13 rfl) rfl ?_
  refine v_iconst X (-1) (gD D_X11_face_0 14 rfl) (by decide) ?_
  refine v_icmp_ne X 36 (gD D_X11_face_0 15 rfl) (by decide) (fun c55 => ?_) (fun c55 => ?_)
  · replace hw := hw.1 c55
    refine v_bipush X 99 (gD D_X11_face_0 18 rfl) (by decide) ?_
    exact v_sub [0] [0, 1, 2, 3, 4] rfl rfl (t_X11_face_38 X hr hin htr hex  a0 x1 x2 x3 x4 99 σ k n hw)
  · replace hw := hw.2 c55
    refine v_iconst X 0 (gD D_X11_face_0 16 rfl) (by decide) ?_
    refine v_goto X 38 (gD D_X11_face_0 17 rfl) (by decide) ?_
    exact v_sub [0] [0, 1, 2, 3, 4] rfl rfl (t_X11_face_38 X hr hin htr hex  a0 x1 x2 x3 x4 0 σ k n hw)
set_option maxRecDepth 100000 in
set_option maxHeartbeats 4000000 in
theorem c_X11_face {l : Launch} {G : GX} (htr : l.stackTraces = false) {k n : Nat} {σ : St} {a0 : Nat} {x1 : Int32} {x2 : Int32} {x3 : Int32} {x4 : Int32} {Q : St → Prop} {Y : Nat → St → Prop} (ht : tvOk σ [(some a0, 12)]) (hw : w_X11_face k n a0 x1 x2 x3 x4 σ Q Y) : MVX l G 1 σ yX11_face cX11_face 7 3 k n [va_rf (some a0), .int x1, .int x2, .int x3, .int x4] Q Y := by
  unfold w_X11_face at hw
  refine m_startX RX11 (by decide) htr ht (Nat.le_of_ble_eq_true rfl) rfl (lv := [(0, va_rf (some a0)), (1, .int x1), (2, .int x2), (3, .int x3), (4, .int x4)]) (d := 1) (fun p e s m args below meth c X hr hin hex => ?_)
  refine v_iload_n X 1 rfl (gD D_X11_face_0 0 rfl) rfl ?_
  refine v_callSi X (As := [.int x1]) (rest := []) (nA := 1) 0 0 k n (fun ht => c_X11_isSlot htr (ht.sub [] rfl) hw) (Or.inl rfl) lk_sRX11_79 (by decide +kernel) rfl rfl (by decide) (by decide) (by decide) rfl rfl (gD D_X11_face_0 1 rfl) (fun x51 s52 hq _ _ => ?_)
  replace hw := hq
  clear hq
  refine v_if_eq X 19 (gD D_X11_face_0 2 rfl) (by decide) (fun c53 => ?_) (fun c53 => ?_)
  · replace hw := hw.1 c53
    exact v_throw X hex 1 (by decide +kernel) lk_xRX11_83 lk_xi_1 lk_xaRX11_85 lk_xgRX11_83_85 (gD D_X11_face_0 9 rfl) (gD D_X11_face_0 10 rfl) (gD D_X11_face_0 11 rfl) (gD D_X11_face_0 12 rfl) (by decide) hw
  · replace hw := hw.2 c53
    refine v_iload_n X 2 rfl (gD D_X11_face_0 3 rfl) rfl ?_
    refine v_iconst X (-1) (gD D_X11_face_0 4 rfl) (by decide) ?_
    refine v_icmp_eq X 27 (gD D_X11_face_0 5 rfl) (by decide) (fun c54 => ?_) (fun c54 => ?_)
    · replace hw := hw.1 c54
      exact v_sub [0] [0, 1, 2, 3, 4] rfl rfl (t_X11_face_27 X hr hin htr hex  a0 x1 x2 x3 x4 s52 k n hw)
    · replace hw := hw.2 c54
      refine v_iload_n X 2 rfl (gD D_X11_face_0 6 rfl) rfl ?_
      refine v_callSi X (As := [.int x2]) (rest := []) (nA := 1) 0 0 k n (fun ht => c_X11_isItem htr (ht.sub [] rfl) hw) (Or.inl rfl) lk_sRX11_110 (by decide +kernel) rfl rfl (by decide) (by decide) (by decide) rfl rfl (gD D_X11_face_0 7 rfl) (fun x98 s99 hq _ _ => ?_)
      replace hw := hq
      clear hq
      refine v_if_ne X 27 (gD D_X11_face_0 8 rfl) (by decide) (fun c100 => ?_) (fun c100 => ?_)
      · replace hw := hw.1 c100
        exact v_sub [0] [0, 1, 2, 3, 4] rfl rfl (t_X11_face_27 X hr hin htr hex  a0 x1 x2 x3 x4 s99 k n hw)
      · replace hw := hw.2 c100
        exact v_throw X hex 1 (by decide +kernel) lk_xRX11_83 lk_xi_1 lk_xaRX11_85 lk_xgRX11_83_85 (gD D_X11_face_0 9 rfl) (gD D_X11_face_0 10 rfl) (gD D_X11_face_0 11 rfl) (gD D_X11_face_0 12 rfl) (by decide) hw
set_option maxRecDepth 100000 in
set_option maxHeartbeats 4000000 in
theorem t_X11_hasLotOrFace_50 {p : Program} {l : Launch} {e : Env} {s : State} {m : MethodId} {args : Array Value} {below : List Frame} {meth : Method} {c : Code} {G : GX} {σ0 : St} {mc ms : Nat} {Q : Int32 → St → Prop} (X : VC p l (rmD 3 mc ms) s m args meth c G 3 mc ms 6 RX11 cX11_hasLotOrFace) (hr : meth.sig.returnType = (some .boolean)) (hin : meth.name = yX11_hasLotOrFace.name) (htr : l.stackTraces = false) : ∀ (f : Nat) (a1 : Nat) (o2 : Option Nat) (x3 : Int32) (x4 : Int32) (σ : St), w_X11_hasLotOrFace_50 Q  f a1 o2 x3 x4 σ → V p l e (rmD 3 mc ms) s m args below meth c (MQ below (va_Qi Q (gB G 1 σ0) (GA G)) args s mc ms (GA G)) G 1 σ0 mc ms 6 σ 0 0 [(some a1, 4), (o2, 24)] 50 [(1, va_rf (some a1)), (2, va_rf o2), (3, .int x3), (4, .int x4)] [] := by
  intro f
  induction f with
  | zero => intro a1 o2 x3 x4 σ hw; exact hw.elim
  | succ f ih =>
    intro a1 o2 x3 x4 σ hw
    unfold w_X11_hasLotOrFace_50 at hw
    refine v_iload X 3 rfl (gD D_X11_hasLotOrFace_0 27 rfl) ?_
    refine v_iload_n X 2 rfl (gD D_X11_hasLotOrFace_0 28 rfl) rfl ?_
    refine v_icmp_ge X 79 (gD D_X11_hasLotOrFace_0 29 rfl) (by decide) (fun c59 => ?_) (fun c59 => ?_)
    · replace hw := hw.1 c59
      refine v_iconst X 0 (gD D_X11_hasLotOrFace_0 42 rfl) (by decide) ?_
      exact v_zret X hr (by decide) hw (gD D_X11_hasLotOrFace_0 43 rfl)
    · replace hw := hw.2 c59
      refine v_aload_n X 1 rfl (gD D_X11_hasLotOrFace_0 30 rfl) rfl ?_
      refine v_iload X 3 rfl (gD D_X11_hasLotOrFace_0 31 rfl) ?_
      obtain ⟨a60, rfl, hw⟩ := hw
      obtain ⟨h61, hw⟩ := hw
      refine v_aald X 1 10 rfl (by decide) h61 (gD D_X11_hasLotOrFace_0 32 rfl) (fun o62 eo62 => ?_)
      replace hw := hw o62 eo62
      refine v_astore X [(5, va_rf o62), (1, va_rf (some a1)), (2, va_rf (some a60)), (3, .int x3), (4, .int x4)] (gD D_X11_hasLotOrFace_0 33 rfl) (by decide) rfl ?_
      refine v_aload X 0 rfl (gD D_X11_hasLotOrFace_0 34 rfl) ?_
      obtain ⟨a63, rfl, hw⟩ := hw
      refine v_getR X RX9 TX9 5 10 9 (by decide) rfl gin9 2 902 RX9 (Or.inl rfl) 0 4 rfl rfl rfl (by decide) lk_fRX11_93 (gD D_X11_hasLotOrFace_0 35 rfl) (fun o64 eo64 => ?_)
      replace hw := hw o64 eo64
      refine v_aload_n X 1 rfl (gD D_X11_hasLotOrFace_0 36 rfl) rfl ?_
      refine v_acmp_ne X 73 (gD D_X11_hasLotOrFace_0 37 rfl) (by decide) (fun c65 => ?_) (fun c65 => ?_)
      · replace hw := hw.1 c65
        refine v_iinc X (x4 + 1) 4 rfl [(4, .int (x4 + 1)), (5, va_rf (some a63)), (1, va_rf (some a1)), (2, va_rf (some a60)), (3, .int x3)] (gD D_X11_hasLotOrFace_0 40 rfl) rfl (by decide) rfl ?_
        refine v_goto X 50 (gD D_X11_hasLotOrFace_0 41 rfl) (by decide) ?_
        exact v_sub [2, 3] [2, 3, 4, 0] rfl rfl (ih a1 (some a60) x3 (x4 + 1) σ hw)
      · replace hw := hw.2 c65
        refine v_iconst X 1 (gD D_X11_hasLotOrFace_0 38 rfl) (by decide) ?_
        exact v_zret X hr (by decide) hw (gD D_X11_hasLotOrFace_0 39 rfl)
set_option maxRecDepth 100000 in
set_option maxHeartbeats 4000000 in
theorem t_X11_hasLotOrFace_2 {p : Program} {l : Launch} {e : Env} {s : State} {m : MethodId} {args : Array Value} {below : List Frame} {meth : Method} {c : Code} {G : GX} {σ0 : St} {mc ms : Nat} {Q : Int32 → St → Prop} (X : VC p l (rmD 3 mc ms) s m args meth c G 3 mc ms 6 RX11 cX11_hasLotOrFace) (hr : meth.sig.returnType = (some .boolean)) (hin : meth.name = yX11_hasLotOrFace.name) (htr : l.stackTraces = false) : ∀ (f : Nat) (a0 : Nat) (a1 : Nat) (x2 : Int32) (σ : St), w_X11_hasLotOrFace_2 Q  f a0 a1 x2 σ → V p l e (rmD 3 mc ms) s m args below meth c (MQ below (va_Qi Q (gB G 1 σ0) (GA G)) args s mc ms (GA G)) G 1 σ0 mc ms 6 σ 0 0 [(some a0, 12), (some a1, 4)] 2 [(0, va_rf (some a0)), (1, va_rf (some a1)), (2, .int x2)] [] := by
  intro f
  induction f with
  | zero => intro a0 a1 x2 σ hw; exact hw.elim
  | succ f ih =>
    intro a0 a1 x2 σ hw
    unfold w_X11_hasLotOrFace_2 at hw
    refine v_iload_n X 2 rfl (gD D_X11_hasLotOrFace_0 2 rfl) rfl ?_
    refine v_aload_n X 0 rfl (gD D_X11_hasLotOrFace_0 3 rfl) rfl ?_
    refine v_getR X RX11 TX11 19 12 11 (by decide) rfl gin11 3 1103 RX11 (Or.inl rfl) 0 30 rfl rfl rfl (by decide) lk_fRX11_30 (gD D_X11_hasLotOrFace_0 4 rfl) (fun o51 eo51 => ?_)
    replace hw := hw o51 eo51
    obtain ⟨a52, rfl, hw⟩ := hw
    refine v_callVi X (As := []) (rest := [.int x2]) (nA := 0) 0 0 0 0 (fun ht => c_Jx4a65c_size_8abf5 htr (ht.sub [0] rfl) hw) (Or.inl rfl) 0 (κ := 30) rfl (by decide) (rfl : gCl[13]? = some (RJx4a65c, TJx4a65c, 3)) lk_vRX11_145 (by decide +kernel) rfl rfl (by simp [rf_cat, ct_i]) (by decide) (by decide) rfl rfl (gD D_X11_hasLotOrFace_0 5 rfl) (fun x53 s54 hq _ _ => ?_)
    replace hw := hq
    clear hq
    refine v_icmp_ge X 39 (gD D_X11_hasLotOrFace_0 6 rfl) (by decide) (fun c55 => ?_) (fun c55 => ?_)
    · replace hw := hw.1 c55
      refine v_aload_n X 0 rfl (gD D_X11_hasLotOrFace_0 19 rfl) rfl ?_
      refine v_getR X RX11 TX11 19 12 11 (by decide) rfl gin11 0 1100 RX11 (Or.inl rfl) 1 24 rfl rfl rfl (by decide) lk_fRX11_11 (gD D_X11_hasLotOrFace_0 20 rfl) (fun o56 eo56 => ?_)
      replace hw := hw o56 eo56
      refine v_astore_n X [(2, va_rf o56), (0, va_rf (some a0)), (1, va_rf (some a1))] (gD D_X11_hasLotOrFace_0 21 rfl) rfl (by decide) rfl ?_
      refine v_aload_n X 0 rfl (gD D_X11_hasLotOrFace_0 22 rfl) rfl ?_
      obtain ⟨a57, rfl, hw⟩ := hw
      refine v_alen X 0 rfl (by decide) (gD D_X11_hasLotOrFace_0 23 rfl) ?_
      refine v_topi (fun x58 ex58 => ?_)
      replace hw := hw x58 ex58
      refine v_istore_n X [(3, .int x58), (2, va_rf (some a57)), (0, va_rf (some a0)), (1, va_rf (some a1))] (gD D_X11_hasLotOrFace_0 24 rfl) rfl (by decide) rfl ?_
      refine v_iconst X 0 (gD D_X11_hasLotOrFace_0 25 rfl) (by decide) ?_
      refine v_istore X [(4, .int 0), (3, .int x58), (2, va_rf (some a57)), (0, va_rf (some a0)), (1, va_rf (some a1))] (gD D_X11_hasLotOrFace_0 26 rfl) (by decide) rfl ?_
      obtain ⟨f66, hw⟩ := hw
      exact v_sub [3, 0] [4, 2, 1, 0] rfl rfl (t_X11_hasLotOrFace_50 X hr hin htr  f66 a1 (some a57) x58 0 s54 hw)
    · replace hw := hw.2 c55
      refine v_aload_n X 0 rfl (gD D_X11_hasLotOrFace_0 7 rfl) rfl ?_
      refine v_getR X RX11 TX11 19 12 11 (by decide) rfl gin11 3 1103 RX11 (Or.inl rfl) 1 30 rfl rfl rfl (by decide) lk_fRX11_30 (gD D_X11_hasLotOrFace_0 8 rfl) (fun o67 eo67 => ?_)
      replace hw := hw o67 eo67
      refine v_iload_n X 2 rfl (gD D_X11_hasLotOrFace_0 9 rfl) rfl ?_
      obtain ⟨a68, rfl, hw⟩ := hw
      refine v_callVu X (As := [.int x2]) (rest := []) (nA := 1) 0 0 0 0 (fun ht => c_Jx4a65c_get_915e3 htr (ht.sub [0] rfl) hw) (Or.inl rfl) 0 (κ := 30) rfl (by decide) (rfl : gCl[13]? = some (RJx4a65c, TJx4a65c, 3)) lk_vRX11_153 (by decide +kernel) rfl rfl (by decide) (by decide) (by decide) rfl rfl (gD D_X11_hasLotOrFace_0 10 rfl) (fun o69 s70 hq _ _ => ?_)
      replace hw := hq
      clear hq
      obtain ⟨a71, rfl, hw⟩ := hw
      obtain ⟨h72, hw⟩ := hw
      refine v_cast X RX5 TX5 4 6 5 h72 (by decide) rfl lk_kRX11_148 (gD D_X11_hasLotOrFace_0 11 rfl) ?_
      refine v_getR X RX5 TX5 4 6 5 (by decide) rfl gin5 1 501 RX5 (Or.inl rfl) 0 4 rfl rfl rfl (by decide) lk_fRX11_368 (gD D_X11_hasLotOrFace_0 12 rfl) (fun o73 eo73 => ?_)
      replace hw := hw o73 eo73
      refine v_aload_n X 1 rfl (gD D_X11_hasLotOrFace_0 13 rfl) rfl ?_
      refine v_acmp_ne X 33 (gD D_X11_hasLotOrFace_0 14 rfl) (by decide) (fun c74 => ?_) (fun c74 => ?_)
      · replace hw := hw.1 c74
        refine v_iinc X (x2 + 1) 2 rfl [(2, .int (x2 + 1)), (0, va_rf (some a0)), (1, va_rf (some a1))] (gD D_X11_hasLotOrFace_0 17 rfl) rfl (by decide) rfl ?_
        refine v_goto X 2 (gD D_X11_hasLotOrFace_0 18 rfl) (by decide) ?_
        exact v_sub [4, 5] [1, 2, 0] rfl rfl (ih a0 a1 (x2 + 1) s70 hw)
      · replace hw := hw.2 c74
        refine v_iconst X 1 (gD D_X11_hasLotOrFace_0 15 rfl) (by decide) ?_
        exact v_zret X hr (by decide) hw (gD D_X11_hasLotOrFace_0 16 rfl)
set_option maxRecDepth 100000 in
set_option maxHeartbeats 4000000 in
theorem c_X11_hasLotOrFace {l : Launch} {G : GX} (htr : l.stackTraces = false) {σ : St} {a0 : Nat} {a1 : Nat} {Q : Int32 → St → Prop} (ht : tvOk σ [(some a0, 12), (some a1, 4)]) (hw : w_X11_hasLotOrFace a0 a1 σ Q) : MI l G 1 σ yX11_hasLotOrFace cX11_hasLotOrFace 6 (some .boolean) 3 0 0 [va_rf (some a0), va_rf (some a1)] Q := by
  unfold w_X11_hasLotOrFace at hw
  refine m_start RX11 (by decide) htr ht (Nat.le_of_ble_eq_true rfl) rfl (lv := [(0, va_rf (some a0)), (1, va_rf (some a1))]) (d := 1) (fun p e s m args below meth c X hr hin => ?_)
  refine v_iconst X 0 (gD D_X11_hasLotOrFace_0 0 rfl) (by decide) ?_
  refine v_istore_n X [(2, .int 0), (0, va_rf (some a0)), (1, va_rf (some a1))] (gD D_X11_hasLotOrFace_0 1 rfl) rfl (by decide) rfl ?_
  obtain ⟨f75, hw⟩ := hw
  exact v_sub [0, 1] [1, 2, 0] rfl rfl (t_X11_hasLotOrFace_2 X hr hin htr  f75 a0 a1 0 σ hw)
set_option maxRecDepth 100000 in
set_option maxHeartbeats 4000000 in
theorem t_X11_held_37 {p : Program} {l : Launch} {e : Env} {s : State} {m : MethodId} {args : Array Value} {below : List Frame} {meth : Method} {c : Code} {G : GX} {σ0 : St} {mc ms : Nat} {Q : Int32 → St → Prop} {Y : Nat → St → Prop} (X : VC p l (rmD 3 mc ms) s m args meth c G 3 mc ms 7 RX11 cX11_held) (hr : meth.sig.returnType = (some .int)) (hin : meth.name = yX11_held.name) (htr : l.stackTraces = false) (hex : ∀ x ∈ c.exceptionTable.toList, False) : ∀ (f : Nat) (a0 : Nat) (x1 : Int32) (x2 : Int32) (x3 : Int32) (x4 : Int32) (x5 : Int32) (σ : St) (k n : Nat), w_X11_held_37 Q Y  f a0 x1 x2 x3 x4 x5 σ k n → V p l e (rmD 3 mc ms) s m args below meth c (vx_MQ below (va_Qi Q (gB G 1 σ0) (GA G)) (gX G 1 σ0 Y) args s mc ms (GA G)) G 1 σ0 mc ms 7 σ k n [(some a0, 12)] 37 [(0, va_rf (some a0)), (1, .int x1), (2, .int x2), (3, .int x3), (4, .int x4), (5, .int x5)] [] := by
  intro f
  induction f with
  | zero => intro a0 x1 x2 x3 x4 x5 σ k n hw; exact hw.elim
  | succ f ih =>
    intro a0 x1 x2 x3 x4 x5 σ k n hw
    unfold w_X11_held_37 at hw
    refine v_iload X 5 rfl (gD D_X11_held_0 19 rfl) ?_
    refine v_aload_n X 0 rfl (gD D_X11_held_0 20 rfl) rfl ?_
    refine v_getR X RX11 TX11 19 12 11 (by decide) rfl gin11 7 1107 RX11 (Or.inl rfl) 0 30 rfl rfl rfl (by decide) lk_fRX11_43 (gD D_X11_held_0 21 rfl) (fun o60 eo60 => ?_)
    replace hw := hw o60 eo60
    obtain ⟨a61, rfl, hw⟩ := hw
    refine v_callVi X (As := []) (rest := [.int x5]) (nA := 0) 0 0 k n (fun ht => c_Jx4a65c_size_8abf5 htr (ht.sub [0] rfl) hw) (Or.inl rfl) 0 (κ := 30) rfl (by decide) (rfl : gCl[13]? = some (RJx4a65c, TJx4a65c, 3)) lk_vRX11_145 (by decide +kernel) rfl rfl (by simp [rf_cat, ct_i]) (by decide) (by decide) rfl rfl (gD D_X11_held_0 22 rfl) (fun x62 s63 hq _ _ => ?_)
    replace hw := hq
    clear hq
    refine v_icmp_ge X 108 (gD D_X11_held_0 23 rfl) (by decide) (fun c64 => ?_) (fun c64 => ?_)
    · replace hw := hw.1 c64
      refine v_iload X 4 rfl (gD D_X11_held_0 50 rfl) ?_
      exact v_X (v_iret X hr hw (gD D_X11_held_0 51 rfl))
    · replace hw := hw.2 c64
      refine v_aload_n X 0 rfl (gD D_X11_held_0 24 rfl) rfl ?_
      refine v_getR X RX11 TX11 19 12 11 (by decide) rfl gin11 7 1107 RX11 (Or.inl rfl) 1 30 rfl rfl rfl (by decide) lk_fRX11_43 (gD D_X11_held_0 25 rfl) (fun o65 eo65 => ?_)
      replace hw := hw o65 eo65
      refine v_iload X 5 rfl (gD D_X11_held_0 26 rfl) ?_
      obtain ⟨a66, rfl, hw⟩ := hw
      refine v_callVu X (As := [.int x5]) (rest := []) (nA := 1) 0 0 k n (fun ht => c_Jx4a65c_get_915e3 htr (ht.sub [0] rfl) hw) (Or.inl rfl) 0 (κ := 30) rfl (by decide) (rfl : gCl[13]? = some (RJx4a65c, TJx4a65c, 3)) lk_vRX11_153 (by decide +kernel) rfl rfl (by decide) (by decide) (by decide) rfl rfl (gD D_X11_held_0 27 rfl) (fun o67 s68 hq _ _ => ?_)
      replace hw := hq
      clear hq
      obtain ⟨a69, rfl, hw⟩ := hw
      obtain ⟨h70, hw⟩ := hw
      refine v_cast X RX2 TX2 6 3 2 h70 (by decide) rfl lk_kRX11_262 (gD D_X11_held_0 28 rfl) ?_
      refine v_astore X [(6, va_rf (some a69)), (0, va_rf (some a0)), (1, .int x1), (2, .int x2), (3, .int x3), (4, .int x4), (5, .int x5)] (gD D_X11_held_0 29 rfl) (by decide) rfl ?_
      refine v_aload X 0 rfl (gD D_X11_held_0 30 rfl) ?_
      refine v_callVi X (As := []) (rest := []) (nA := 0) 0 0 k n (fun ht => c_X2_turn htr (ht.sub [0] rfl) hw) (Or.inl rfl) 0 (κ := 3) rfl (by decide) (rfl : gCl[2]? = some (RX2, TX2, 6)) lk_vRX11_264 (by decide +kernel) rfl rfl (by decide) (by decide) (by decide) rfl rfl (gD D_X11_held_0 31 rfl) (fun x71 s72 hq _ _ => ?_)
      replace hw := hq
      clear hq
      refine v_iload_n X 2 rfl (gD D_X11_held_0 32 rfl) rfl ?_
      refine v_icmp_ne X 102 (gD D_X11_held_0 33 rfl) (by decide) (fun c73 => ?_) (fun c73 => ?_)
      · replace hw := hw.1 c73
        refine v_iinc X (x5 + 1) 6 rfl [(5, .int (x5 + 1)), (6, va_rf (some a69)), (0, va_rf (some a0)), (1, .int x1), (2, .int x2), (3, .int x3), (4, .int x4)] (gD D_X11_held_0 48 rfl) rfl (by decide) rfl ?_
        refine v_goto X 37 (gD D_X11_held_0 49 rfl) (by decide) ?_
        exact v_sub [3] [2, 3, 4, 5, 6, 0] rfl rfl (ih a0 x1 x2 x3 x4 (x5 + 1) s72 k n hw)
      · replace hw := hw.2 c73
        refine v_aload X 0 rfl (gD D_X11_held_0 34 rfl) ?_
        refine v_iload_n X 3 rfl (gD D_X11_held_0 35 rfl) rfl ?_
        refine v_aload_n X 1 rfl (gD D_X11_held_0 36 rfl) rfl ?_
        refine v_getR X RX11 TX11 19 12 11 (by decide) rfl gin11 3 1103 RX11 (Or.inl rfl) 3 30 rfl rfl rfl (by decide) lk_fRX11_30 (gD D_X11_held_0 37 rfl) (fun o74 eo74 => ?_)
        replace hw := hw o74 eo74
        refine v_iload_n X 4 rfl (gD D_X11_held_0 38 rfl) rfl ?_
        obtain ⟨a75, rfl, hw⟩ := hw
        refine v_callVu X (As := [.int x3]) (rest := [.int x2, va_rf (some a69)]) (nA := 1) 0 0 k n (fun ht => c_Jx4a65c_get_915e3 htr (ht.sub [0] rfl) hw) (Or.inl rfl) 0 (κ := 30) rfl (by decide) (rfl : gCl[13]? = some (RJx4a65c, TJx4a65c, 3)) lk_vRX11_153 (by decide +kernel) rfl rfl (by simp [rf_cat, ct_i]) (by decide) (by decide) rfl rfl (gD D_X11_held_0 39 rfl) (fun o76 s77 hq _ _ => ?_)
        replace hw := hq
        clear hq
        obtain ⟨a78, rfl, hw⟩ := hw
        obtain ⟨h79, hw⟩ := hw
        refine v_cast X RX5 TX5 4 6 5 h79 (by decide) rfl lk_kRX11_148 (gD D_X11_held_0 40 rfl) ?_
        refine v_callVi X (As := [.int x2, va_rf (some a78)]) (rest := []) (nA := 2) 0 0 k n (fun ht => c_X2_isOf htr (ht.sub [2, 0] rfl) hw) (Or.inl rfl) 2 (κ := 3) rfl (by decide) (rfl : gCl[2]? = some (RX2, TX2, 6)) lk_vRX11_267 (by decide +kernel) rfl rfl (by decide) (by decide) (by decide) rfl rfl (gD D_X11_held_0 41 rfl) (fun x80 s81 hq _ _ => ?_)
        replace hw := hq
        clear hq
        refine v_if_eq X 102 (gD D_X11_held_0 42 rfl) (by decide) (fun c82 => ?_) (fun c82 => ?_)
        · replace hw := hw.1 c82
          refine v_iinc X (x5 + 1) 6 rfl [(5, .int (x5 + 1)), (6, va_rf (some a69)), (0, va_rf (some a0)), (1, .int x1), (2, .int x2), (3, .int x3), (4, .int x4)] (gD D_X11_held_0 48 rfl) rfl (by decide) rfl ?_
          refine v_goto X 37 (gD D_X11_held_0 49 rfl) (by decide) ?_
          exact v_sub [5] [2, 3, 4, 5, 6, 0] rfl rfl (ih a0 x1 x2 x3 x4 (x5 + 1) s81 k n hw)
        · replace hw := hw.2 c82
          refine v_iload X 5 rfl (gD D_X11_held_0 43 rfl) ?_
          refine v_aload X 0 rfl (gD D_X11_held_0 44 rfl) ?_
          refine v_getI X RX2 TX2 6 3 2 (by decide) rfl gin2 4 204 RX2 (Or.inl rfl) 2 rfl rfl (by decide) lk_fRX11_271 (gD D_X11_held_0 45 rfl) ?_
          refine v_iadd X (gD D_X11_held_0 46 rfl) ?_
          refine v_topi (fun x83 ex83 => ?_)
          replace hw := hw x83 ex83
          refine v_istore X [(4, .int x83), (6, va_rf (some a69)), (0, va_rf (some a0)), (1, .int x1), (2, .int x2), (3, .int x3), (5, .int x5)] (gD D_X11_held_0 47 rfl) (by decide) rfl ?_
          refine v_iinc X (x5 + 1) 6 rfl [(5, .int (x5 + 1)), (4, .int x83), (6, va_rf (some a69)), (0, va_rf (some a0)), (1, .int x1), (2, .int x2), (3, .int x3)] (gD D_X11_held_0 48 rfl) rfl (by decide) rfl ?_
          refine v_goto X 37 (gD D_X11_held_0 49 rfl) (by decide) ?_
          exact v_sub [5] [3, 4, 5, 6, 1, 0] rfl rfl (ih a0 x1 x2 x3 x83 (x5 + 1) s81 k n hw)
set_option maxRecDepth 100000 in
set_option maxHeartbeats 4000000 in
theorem c_X11_held {l : Launch} {G : GX} (htr : l.stackTraces = false) {k n : Nat} {σ : St} {a0 : Nat} {x1 : Int32} {x2 : Int32} {x3 : Int32} {Q : Int32 → St → Prop} {Y : Nat → St → Prop} (ht : tvOk σ [(some a0, 12)]) (hw : w_X11_held k n a0 x1 x2 x3 σ Q Y) : MIX l G 1 σ yX11_held cX11_held 7 (some .int) 3 k n [va_rf (some a0), .int x1, .int x2, .int x3] Q Y := by
  unfold w_X11_held at hw
  refine m_startX RX11 (by decide) htr ht (Nat.le_of_ble_eq_true rfl) rfl (lv := [(0, va_rf (some a0)), (1, .int x1), (2, .int x2), (3, .int x3)]) (d := 1) (fun p e s m args below meth c X hr hin hex => ?_)
  refine v_aload_n X 0 rfl (gD D_X11_held_0 0 rfl) rfl ?_
  refine v_iload_n X 1 rfl (gD D_X11_held_0 1 rfl) rfl ?_
  refine v_callVi X (As := [.int x1]) (rest := []) (nA := 1) 0 0 k n (fun ht => c_X11_isOrder htr (ht.sub [0] rfl) hw) (Or.inl rfl) 0 (κ := 12) rfl (by decide) (rfl : gCl[11]? = some (RX11, TX11, 19)) lk_vRX11_240 (by decide +kernel) rfl rfl (by decide) (by decide) (by decide) rfl rfl (gD D_X11_held_0 2 rfl) (fun x51 s52 hq _ _ => ?_)
  replace hw := hq
  clear hq
  refine v_if_eq X 23 (gD D_X11_held_0 3 rfl) (by decide) (fun c53 => ?_) (fun c53 => ?_)
  · replace hw := hw.1 c53
    exact v_throw X hex 1 (by decide +kernel) lk_xRX11_83 lk_xi_1 lk_xaRX11_85 lk_xgRX11_83_85 (gD D_X11_held_0 11 rfl) (gD D_X11_held_0 12 rfl) (gD D_X11_held_0 13 rfl) (gD D_X11_held_0 14 rfl) (by decide) hw
  · replace hw := hw.2 c53
    refine v_iload_n X 2 rfl (gD D_X11_held_0 4 rfl) rfl ?_
    refine v_callSi X (As := [.int x2]) (rest := []) (nA := 1) 0 0 k n (fun ht => c_X11_isSlot htr (ht.sub [] rfl) hw) (Or.inl rfl) lk_sRX11_79 (by decide +kernel) rfl rfl (by decide) (by decide) (by decide) rfl rfl (gD D_X11_held_0 5 rfl) (fun x54 s55 hq _ _ => ?_)
    replace hw := hq
    clear hq
    refine v_if_eq X 23 (gD D_X11_held_0 6 rfl) (by decide) (fun c56 => ?_) (fun c56 => ?_)
    · replace hw := hw.1 c56
      exact v_throw X hex 1 (by decide +kernel) lk_xRX11_83 lk_xi_1 lk_xaRX11_85 lk_xgRX11_83_85 (gD D_X11_held_0 11 rfl) (gD D_X11_held_0 12 rfl) (gD D_X11_held_0 13 rfl) (gD D_X11_held_0 14 rfl) (by decide) hw
    · replace hw := hw.2 c56
      refine v_aload_n X 0 rfl (gD D_X11_held_0 7 rfl) rfl ?_
      refine v_iload_n X 3 rfl (gD D_X11_held_0 8 rfl) rfl ?_
      refine v_callVi X (As := [.int x3]) (rest := []) (nA := 1) 0 0 k n (fun ht => c_X11_isLot htr (ht.sub [0] rfl) hw) (Or.inl rfl) 0 (κ := 12) rfl (by decide) (rfl : gCl[11]? = some (RX11, TX11, 19)) lk_vRX11_170 (by decide +kernel) rfl rfl (by decide) (by decide) (by decide) rfl rfl (gD D_X11_held_0 9 rfl) (fun x57 s58 hq _ _ => ?_)
      replace hw := hq
      clear hq
      refine v_if_ne X 31 (gD D_X11_held_0 10 rfl) (by decide) (fun c59 => ?_) (fun c59 => ?_)
      · replace hw := hw.1 c59
        refine v_iconst X 0 (gD D_X11_held_0 15 rfl) (by decide) ?_
        refine v_istore X [(4, .int 0), (0, va_rf (some a0)), (1, .int x1), (2, .int x2), (3, .int x3)] (gD D_X11_held_0 16 rfl) (by decide) rfl ?_
        refine v_iconst X 0 (gD D_X11_held_0 17 rfl) (by decide) ?_
        refine v_istore X [(5, .int 0), (4, .int 0), (0, va_rf (some a0)), (1, .int x1), (2, .int x2), (3, .int x3)] (gD D_X11_held_0 18 rfl) (by decide) rfl ?_
        obtain ⟨f84, hw⟩ := hw
        exact v_sub [0] [2, 3, 4, 5, 1, 0] rfl rfl (t_X11_held_37 X hr hin htr hex  f84 a0 x1 x2 x3 0 0 s58 k n hw)
      · replace hw := hw.2 c59
        exact v_throw X hex 1 (by decide +kernel) lk_xRX11_83 lk_xi_1 lk_xaRX11_85 lk_xgRX11_83_85 (gD D_X11_held_0 11 rfl) (gD D_X11_held_0 12 rfl) (gD D_X11_held_0 13 rfl) (gD D_X11_held_0 14 rfl) (by decide) hw
set_option maxRecDepth 100000 in
set_option maxHeartbeats 4000000 in
theorem t_X11_holdingsForWave_4 {p : Program} {l : Launch} {e : Env} {s : State} {m : MethodId} {args : Array Value} {below : List Frame} {meth : Method} {c : Code} {G : GX} {σ0 : St} {mc ms : Nat} {Q : Int32 → St → Prop} (X : VC p l (rmD 3 mc ms) s m args meth c G 3 mc ms 4 RX11 cX11_holdingsForWave) (hr : meth.sig.returnType = (some .int)) (hin : meth.name = yX11_holdingsForWave.name) (htr : l.stackTraces = false) : ∀ (f : Nat) (a0 : Nat) (x1 : Int32) (x2 : Int32) (x3 : Int32) (σ : St), w_X11_holdingsForWave_4 Q  f a0 x1 x2 x3 σ → V p l e (rmD 3 mc ms) s m args below meth c (MQ below (va_Qi Q (gB G 1 σ0) (GA G)) args s mc ms (GA G)) G 1 σ0 mc ms 4 σ 0 0 [(some a0, 12)] 4 [(0, va_rf (some a0)), (1, .int x1), (2, .int x2), (3, .int x3)] [] := by
  intro f
  induction f with
  | zero => intro a0 x1 x2 x3 σ hw; exact hw.elim
  | succ f ih =>
    intro a0 x1 x2 x3 σ hw
    unfold w_X11_holdingsForWave_4 at hw
    refine v_iload_n X 3 rfl (gD D_X11_holdingsForWave_0 4 rfl) rfl ?_
    refine v_aload_n X 0 rfl (gD D_X11_holdingsForWave_0 5 rfl) rfl ?_
    refine v_getR X RX11 TX11 19 12 11 (by decide) rfl gin11 7 1107 RX11 (Or.inl rfl) 0 30 rfl rfl rfl (by decide) lk_fRX11_43 (gD D_X11_holdingsForWave_0 6 rfl) (fun o51 eo51 => ?_)
    replace hw := hw o51 eo51
    obtain ⟨a52, rfl, hw⟩ := hw
    refine v_callVi X (As := []) (rest := [.int x3]) (nA := 0) 0 0 0 0 (fun ht => c_Jx4a65c_size_8abf5 htr (ht.sub [0] rfl) hw) (Or.inl rfl) 0 (κ := 30) rfl (by decide) (rfl : gCl[13]? = some (RJx4a65c, TJx4a65c, 3)) lk_vRX11_145 (by decide +kernel) rfl rfl (by simp [rf_cat, ct_i]) (by decide) (by decide) rfl rfl (gD D_X11_holdingsForWave_0 7 rfl) (fun x53 s54 hq _ _ => ?_)
    replace hw := hq
    clear hq
    refine v_icmp_ge X 42 (gD D_X11_holdingsForWave_0 8 rfl) (by decide) (fun c55 => ?_) (fun c55 => ?_)
    · replace hw := hw.1 c55
      refine v_iload_n X 2 rfl (gD D_X11_holdingsForWave_0 20 rfl) rfl ?_
      exact v_iret X hr hw (gD D_X11_holdingsForWave_0 21 rfl)
    · replace hw := hw.2 c55
      refine v_aload_n X 0 rfl (gD D_X11_holdingsForWave_0 9 rfl) rfl ?_
      refine v_getR X RX11 TX11 19 12 11 (by decide) rfl gin11 7 1107 RX11 (Or.inl rfl) 1 30 rfl rfl rfl (by decide) lk_fRX11_43 (gD D_X11_holdingsForWave_0 10 rfl) (fun o56 eo56 => ?_)
      replace hw := hw o56 eo56
      refine v_iload_n X 3 rfl (gD D_X11_holdingsForWave_0 11 rfl) rfl ?_
      obtain ⟨a57, rfl, hw⟩ := hw
      refine v_callVu X (As := [.int x3]) (rest := []) (nA := 1) 0 0 0 0 (fun ht => c_Jx4a65c_get_915e3 htr (ht.sub [0] rfl) hw) (Or.inl rfl) 0 (κ := 30) rfl (by decide) (rfl : gCl[13]? = some (RJx4a65c, TJx4a65c, 3)) lk_vRX11_153 (by decide +kernel) rfl rfl (by decide) (by decide) (by decide) rfl rfl (gD D_X11_holdingsForWave_0 12 rfl) (fun o58 s59 hq _ _ => ?_)
      replace hw := hq
      clear hq
      obtain ⟨a60, rfl, hw⟩ := hw
      obtain ⟨h61, hw⟩ := hw
      refine v_cast X RX2 TX2 6 3 2 h61 (by decide) rfl lk_kRX11_262 (gD D_X11_holdingsForWave_0 13 rfl) ?_
      refine v_iload_n X 1 rfl (gD D_X11_holdingsForWave_0 14 rfl) rfl ?_
      refine v_callSi X (As := [va_rf (some a60), .int x1]) (rest := []) (nA := 2) 0 0 0 0 (fun ht => c_X11_isForWave htr (ht.sub [0] rfl) hw) (Or.inl rfl) lk_sRX11_473 (by decide +kernel) rfl rfl (by decide) (by decide) (by decide) rfl rfl (gD D_X11_holdingsForWave_0 15 rfl) (fun x62 s63 hq _ _ => ?_)
      replace hw := hq
      clear hq
      refine v_if_eq X 36 (gD D_X11_holdingsForWave_0 16 rfl) (by decide) (fun c64 => ?_) (fun c64 => ?_)
      · replace hw := hw.1 c64
        refine v_iinc X (x3 + 1) 3 rfl [(3, .int (x3 + 1)), (0, va_rf (some a0)), (1, .int x1), (2, .int x2)] (gD D_X11_holdingsForWave_0 18 rfl) rfl (by decide) rfl ?_
        refine v_goto X 4 (gD D_X11_holdingsForWave_0 19 rfl) (by decide) ?_
        exact v_sub [3] [1, 2, 3, 0] rfl rfl (ih a0 x1 x2 (x3 + 1) s63 hw)
      · replace hw := hw.2 c64
        refine v_iinc X (x2 + 1) 2 rfl [(2, .int (x2 + 1)), (0, va_rf (some a0)), (1, .int x1), (3, .int x3)] (gD D_X11_holdingsForWave_0 17 rfl) rfl (by decide) rfl ?_
        refine v_iinc X (x3 + 1) 3 rfl [(3, .int (x3 + 1)), (2, .int (x2 + 1)), (0, va_rf (some a0)), (1, .int x1)] (gD D_X11_holdingsForWave_0 18 rfl) rfl (by decide) rfl ?_
        refine v_goto X 4 (gD D_X11_holdingsForWave_0 19 rfl) (by decide) ?_
        exact v_sub [3] [2, 3, 1, 0] rfl rfl (ih a0 x1 (x2 + 1) (x3 + 1) s63 hw)
set_option maxRecDepth 100000 in
set_option maxHeartbeats 4000000 in
theorem c_X11_holdingsForWave {l : Launch} {G : GX} (htr : l.stackTraces = false) {σ : St} {a0 : Nat} {x1 : Int32} {Q : Int32 → St → Prop} (ht : tvOk σ [(some a0, 12)]) (hw : w_X11_holdingsForWave a0 x1 σ Q) : MI l G 1 σ yX11_holdingsForWave cX11_holdingsForWave 4 (some .int) 3 0 0 [va_rf (some a0), .int x1] Q := by
  unfold w_X11_holdingsForWave at hw
  refine m_start RX11 (by decide) htr ht (Nat.le_of_ble_eq_true rfl) rfl (lv := [(0, va_rf (some a0)), (1, .int x1)]) (d := 1) (fun p e s m args below meth c X hr hin => ?_)
  refine v_iconst X 0 (gD D_X11_holdingsForWave_0 0 rfl) (by decide) ?_
  refine v_istore_n X [(2, .int 0), (0, va_rf (some a0)), (1, .int x1)] (gD D_X11_holdingsForWave_0 1 rfl) rfl (by decide) rfl ?_
  refine v_iconst X 0 (gD D_X11_holdingsForWave_0 2 rfl) (by decide) ?_
  refine v_istore_n X [(3, .int 0), (2, .int 0), (0, va_rf (some a0)), (1, .int x1)] (gD D_X11_holdingsForWave_0 3 rfl) rfl (by decide) rfl ?_
  obtain ⟨f65, hw⟩ := hw
  exact v_sub [0] [2, 3, 1, 0] rfl rfl (t_X11_holdingsForWave_4 X hr hin htr  f65 a0 x1 0 0 σ hw)
set_option maxRecDepth 100000 in
set_option maxHeartbeats 4000000 in
theorem c_X11_lacks {l : Launch} {G : GX} (htr : l.stackTraces = false) {k n : Nat} {σ : St} {a0 : Nat} {x1 : Int32} {x2 : Int32} {Q : Int32 → St → Prop} {Y : Nat → St → Prop} (ht : tvOk σ [(some a0, 12)]) (hw : w_X11_lacks k n a0 x1 x2 σ Q Y) : MIX l G 1 σ yX11_lacks cX11_lacks 3 (some .int) 3 k n [va_rf (some a0), .int x1, .int x2] Q Y := by
  unfold w_X11_lacks at hw
  refine m_startX RX11 (by decide) htr ht (Nat.le_of_ble_eq_true rfl) rfl (lv := [(0, va_rf (some a0)), (1, .int x1), (2, .int x2)]) (d := 1) (fun p e s m args below meth c X hr hin hex => ?_)
  refine v_aload_n X 0 rfl (gD D_X11_lacks_0 0 rfl) rfl ?_
  refine v_iload_n X 1 rfl (gD D_X11_lacks_0 1 rfl) rfl ?_
  refine v_callVi X (As := [.int x1]) (rest := []) (nA := 1) 0 0 k n (fun ht => c_X11_isOrder htr (ht.sub [0] rfl) hw) (Or.inl rfl) 0 (κ := 12) rfl (by decide) (rfl : gCl[11]? = some (RX11, TX11, 19)) lk_vRX11_240 (by decide +kernel) rfl rfl (by decide) (by decide) (by decide) rfl rfl (gD D_X11_lacks_0 2 rfl) (fun x51 s52 hq _ _ => ?_)
  replace hw := hq
  clear hq
  refine v_if_eq X 33 (gD D_X11_lacks_0 3 rfl) (by decide) (fun c53 => ?_) (fun c53 => ?_)
  · replace hw := hw.1 c53
    exact v_throw X hex 1 (by decide +kernel) lk_xRX11_83 lk_xi_1 lk_xaRX11_85 lk_xgRX11_83_85 (gD D_X11_lacks_0 15 rfl) (gD D_X11_lacks_0 16 rfl) (gD D_X11_lacks_0 17 rfl) (gD D_X11_lacks_0 18 rfl) (by decide) hw
  · replace hw := hw.2 c53
    refine v_iload_n X 2 rfl (gD D_X11_lacks_0 4 rfl) rfl ?_
    refine v_if_lt X 33 (gD D_X11_lacks_0 5 rfl) (by decide) (fun c54 => ?_) (fun c54 => ?_)
    · replace hw := hw.1 c54
      exact v_throw X hex 1 (by decide +kernel) lk_xRX11_83 lk_xi_1 lk_xaRX11_85 lk_xgRX11_83_85 (gD D_X11_lacks_0 15 rfl) (gD D_X11_lacks_0 16 rfl) (gD D_X11_lacks_0 17 rfl) (gD D_X11_lacks_0 18 rfl) (by decide) hw
    · replace hw := hw.2 c54
      refine v_iload_n X 2 rfl (gD D_X11_lacks_0 6 rfl) rfl ?_
      refine v_aload_n X 0 rfl (gD D_X11_lacks_0 7 rfl) rfl ?_
      refine v_getR X RX11 TX11 19 12 11 (by decide) rfl gin11 6 1106 RX11 (Or.inl rfl) 0 30 rfl rfl rfl (by decide) lk_fRX11_40 (gD D_X11_lacks_0 8 rfl) (fun o55 eo55 => ?_)
      replace hw := hw o55 eo55
      refine v_iload_n X 1 rfl (gD D_X11_lacks_0 9 rfl) rfl ?_
      obtain ⟨a56, rfl, hw⟩ := hw
      refine v_callVu X (As := [.int x1]) (rest := [.int x2]) (nA := 1) 0 0 k n (fun ht => c_Jx4a65c_get_915e3 htr (ht.sub [0] rfl) hw) (Or.inl rfl) 0 (κ := 30) rfl (by decide) (rfl : gCl[13]? = some (RJx4a65c, TJx4a65c, 3)) lk_vRX11_153 (by decide +kernel) rfl rfl (by simp [rf_cat, ct_i]) (by decide) (by decide) rfl rfl (gD D_X11_lacks_0 10 rfl) (fun o57 s58 hq _ _ => ?_)
      replace hw := hq
      clear hq
      obtain ⟨a59, rfl, hw⟩ := hw
      obtain ⟨h60, hw⟩ := hw
      refine v_cast X RX7 TX7 7 8 7 h60 (by decide) rfl lk_kRX11_235 (gD D_X11_lacks_0 11 rfl) ?_
      refine v_getR X RX7 TX7 7 8 7 (by decide) rfl gin7 4 704 RX7 (Or.inl rfl) 0 30 rfl rfl rfl (by decide) lk_fRX11_243 (gD D_X11_lacks_0 12 rfl) (fun o61 eo61 => ?_)
      replace hw := hw o61 eo61
      obtain ⟨a62, rfl, hw⟩ := hw
      refine v_callVi X (As := []) (rest := [.int x2]) (nA := 0) 0 0 k n (fun ht => c_Jx4a65c_size_8abf5 htr (ht.sub [0] rfl) hw) (Or.inl rfl) 0 (κ := 30) rfl (by decide) (rfl : gCl[13]? = some (RJx4a65c, TJx4a65c, 3)) lk_vRX11_145 (by decide +kernel) rfl rfl (by simp [rf_cat, ct_i]) (by decide) (by decide) rfl rfl (gD D_X11_lacks_0 13 rfl) (fun x63 s64 hq _ _ => ?_)
      replace hw := hq
      clear hq
      refine v_icmp_lt X 41 (gD D_X11_lacks_0 14 rfl) (by decide) (fun c65 => ?_) (fun c65 => ?_)
      · replace hw := hw.1 c65
        refine v_aload_n X 0 rfl (gD D_X11_lacks_0 19 rfl) rfl ?_
        refine v_getR X RX11 TX11 19 12 11 (by decide) rfl gin11 6 1106 RX11 (Or.inl rfl) 3 30 rfl rfl rfl (by decide) lk_fRX11_40 (gD D_X11_lacks_0 20 rfl) (fun o66 eo66 => ?_)
        replace hw := hw o66 eo66
        refine v_iload_n X 1 rfl (gD D_X11_lacks_0 21 rfl) rfl ?_
        obtain ⟨a67, rfl, hw⟩ := hw
        refine v_callVu X (As := [.int x1]) (rest := []) (nA := 1) 0 0 k n (fun ht => c_Jx4a65c_get_915e3 htr (ht.sub [0] rfl) hw) (Or.inl rfl) 0 (κ := 30) rfl (by decide) (rfl : gCl[13]? = some (RJx4a65c, TJx4a65c, 3)) lk_vRX11_153 (by decide +kernel) rfl rfl (by decide) (by decide) (by decide) rfl rfl (gD D_X11_lacks_0 22 rfl) (fun o68 s69 hq _ _ => ?_)
        replace hw := hq
        clear hq
        obtain ⟨a70, rfl, hw⟩ := hw
        obtain ⟨h71, hw⟩ := hw
        refine v_cast X RX7 TX7 7 8 7 h71 (by decide) rfl lk_kRX11_235 (gD D_X11_lacks_0 23 rfl) ?_
        refine v_getR X RX7 TX7 7 8 7 (by decide) rfl gin7 4 704 RX7 (Or.inl rfl) 0 30 rfl rfl rfl (by decide) lk_fRX11_243 (gD D_X11_lacks_0 24 rfl) (fun o72 eo72 => ?_)
        replace hw := hw o72 eo72
        refine v_iload_n X 2 rfl (gD D_X11_lacks_0 25 rfl) rfl ?_
        obtain ⟨a73, rfl, hw⟩ := hw
        refine v_callVu X (As := [.int x2]) (rest := []) (nA := 1) 0 0 k n (fun ht => c_Jx4a65c_get_915e3 htr (ht.sub [0] rfl) hw) (Or.inl rfl) 0 (κ := 30) rfl (by decide) (rfl : gCl[13]? = some (RJx4a65c, TJx4a65c, 3)) lk_vRX11_153 (by decide +kernel) rfl rfl (by decide) (by decide) (by decide) rfl rfl (gD D_X11_lacks_0 26 rfl) (fun o74 s75 hq _ _ => ?_)
        replace hw := hq
        clear hq
        obtain ⟨a76, rfl, hw⟩ := hw
        obtain ⟨h77, hw⟩ := hw
        refine v_cast X RX4 TX4 4 5 4 h77 (by decide) rfl lk_kRX11_249 (gD D_X11_lacks_0 27 rfl) ?_
        refine v_callVi X (As := []) (rest := []) (nA := 0) 0 0 k n (fun ht => c_X4_lacking htr (ht.sub [0] rfl) hw) (Or.inl rfl) 0 (κ := 5) rfl (by decide) (rfl : gCl[4]? = some (RX4, TX4, 4)) lk_vRX11_259 (by decide +kernel) rfl rfl (by decide) (by decide) (by decide) rfl rfl (gD D_X11_lacks_0 28 rfl) (fun x78 s79 hq _ _ => ?_)
        replace hw := hq
        clear hq
        exact v_X (v_iret X hr hw (gD D_X11_lacks_0 29 rfl))
      · replace hw := hw.2 c65
        exact v_throw X hex 1 (by decide +kernel) lk_xRX11_83 lk_xi_1 lk_xaRX11_85 lk_xgRX11_83_85 (gD D_X11_lacks_0 15 rfl) (gD D_X11_lacks_0 16 rfl) (gD D_X11_lacks_0 17 rfl) (gD D_X11_lacks_0 18 rfl) (by decide) hw
set_option maxRecDepth 100000 in
set_option maxHeartbeats 4000000 in
theorem t_X11_nextForWave_7 {p : Program} {l : Launch} {e : Env} {s : State} {m : MethodId} {args : Array Value} {below : List Frame} {meth : Method} {c : Code} {G : GX} {σ0 : St} {mc ms : Nat} {Q : Option Nat → St → Prop} (X : VC p l (rmD 3 mc ms) s m args meth c G 3 mc ms 7 RX11 cX11_nextForWave) (hr : meth.sig.returnType = (some (.object RX2))) (hin : meth.name = yX11_nextForWave.name) (htr : l.stackTraces = false) : ∀ (f : Nat) (a0 : Nat) (x1 : Int32) (o2 : Option Nat) (x3 : Int32) (x4 : Int32) (σ : St), w_X11_nextForWave_7 Q  f a0 x1 o2 x3 x4 σ → V p l e (rmD 3 mc ms) s m args below meth c (MQ below (va_Qq (fun r τ => Q r τ ∧ rOk 3 r τ) (gB G 1 σ0) (GA G)) args s mc ms (GA G)) G 1 σ0 mc ms 7 σ 0 0 [(some a0, 12), (o2, 3)] 7 [(0, va_rf (some a0)), (1, .int x1), (2, va_rf o2), (3, .int x3), (4, .int x4)] [] := by
  intro f
  induction f with
  | zero => intro a0 x1 o2 x3 x4 σ hw; exact hw.elim
  | succ f ih =>
    intro a0 x1 o2 x3 x4 σ hw
    unfold w_X11_nextForWave_7 at hw
    refine v_iload X 4 rfl (gD D_X11_nextForWave_0 6 rfl) ?_
    refine v_aload_n X 0 rfl (gD D_X11_nextForWave_0 7 rfl) rfl ?_
    refine v_getR X RX11 TX11 19 12 11 (by decide) rfl gin11 7 1107 RX11 (Or.inl rfl) 0 30 rfl rfl rfl (by decide) lk_fRX11_43 (gD D_X11_nextForWave_0 8 rfl) (fun o51 eo51 => ?_)
    replace hw := hw o51 eo51
    obtain ⟨a52, rfl, hw⟩ := hw
    refine v_callVi X (As := []) (rest := [.int x4]) (nA := 0) 0 0 0 0 (fun ht => c_Jx4a65c_size_8abf5 htr (ht.sub [0] rfl) hw) (Or.inl rfl) 0 (κ := 30) rfl (by decide) (rfl : gCl[13]? = some (RJx4a65c, TJx4a65c, 3)) lk_vRX11_145 (by decide +kernel) rfl rfl (by simp [rf_cat, ct_i]) (by decide) (by decide) rfl rfl (gD D_X11_nextForWave_0 9 rfl) (fun x53 s54 hq _ _ => ?_)
    replace hw := hq
    clear hq
    refine v_icmp_ge X 71 (gD D_X11_nextForWave_0 10 rfl) (by decide) (fun c55 => ?_) (fun c55 => ?_)
    · replace hw := hw.1 c55
      refine v_aload_n X 2 rfl (gD D_X11_nextForWave_0 35 rfl) rfl ?_
      exact v_aret X hr (Or.inl ⟨_, rfl⟩) (Or.inr (Or.inr ⟨2, rfl⟩)) hw (gD D_X11_nextForWave_0 36 rfl)
    · replace hw := hw.2 c55
      refine v_aload_n X 0 rfl (gD D_X11_nextForWave_0 11 rfl) rfl ?_
      refine v_getR X RX11 TX11 19 12 11 (by decide) rfl gin11 7 1107 RX11 (Or.inl rfl) 1 30 rfl rfl rfl (by decide) lk_fRX11_43 (gD D_X11_nextForWave_0 12 rfl) (fun o56 eo56 => ?_)
      replace hw := hw o56 eo56
      refine v_iload X 4 rfl (gD D_X11_nextForWave_0 13 rfl) ?_
      obtain ⟨a57, rfl, hw⟩ := hw
      refine v_callVu X (As := [.int x4]) (rest := []) (nA := 1) 0 0 0 0 (fun ht => c_Jx4a65c_get_915e3 htr (ht.sub [0] rfl) hw) (Or.inl rfl) 0 (κ := 30) rfl (by decide) (rfl : gCl[13]? = some (RJx4a65c, TJx4a65c, 3)) lk_vRX11_153 (by decide +kernel) rfl rfl (by decide) (by decide) (by decide) rfl rfl (gD D_X11_nextForWave_0 14 rfl) (fun o58 s59 hq _ _ => ?_)
      replace hw := hq
      clear hq
      obtain ⟨a60, rfl, hw⟩ := hw
      obtain ⟨h61, hw⟩ := hw
      refine v_cast X RX2 TX2 6 3 2 h61 (by decide) rfl lk_kRX11_262 (gD D_X11_nextForWave_0 15 rfl) ?_
      refine v_astore X [(5, va_rf (some a60)), (0, va_rf (some a0)), (1, .int x1), (2, va_rf o2), (3, .int x3), (4, .int x4)] (gD D_X11_nextForWave_0 16 rfl) (by decide) rfl ?_
      refine v_aload X 0 rfl (gD D_X11_nextForWave_0 17 rfl) ?_
      refine v_callSi X (As := [va_rf (some a60)]) (rest := []) (nA := 1) 0 0 0 0 (fun ht => c_X11_turnInWave htr (ht.sub [0] rfl) hw) (Or.inl rfl) lk_sRX11_477 (by decide +kernel) rfl rfl (by decide) (by decide) (by decide) rfl rfl (gD D_X11_nextForWave_0 18 rfl) (fun x62 s63 hq _ _ => ?_)
      replace hw := hq
      clear hq
      refine v_istore X [(6, .int x62), (5, va_rf (some a60)), (0, va_rf (some a0)), (1, .int x1), (2, va_rf o2), (3, .int x3), (4, .int x4)] (gD D_X11_nextForWave_0 19 rfl) (by decide) rfl ?_
      refine v_aload X 1 rfl (gD D_X11_nextForWave_0 20 rfl) ?_
      refine v_iload_n X 3 rfl (gD D_X11_nextForWave_0 21 rfl) rfl ?_
      refine v_callSi X (As := [va_rf (some a60), .int x1]) (rest := []) (nA := 2) 0 0 0 0 (fun ht => c_X11_isForWave htr (ht.sub [0] rfl) hw) (Or.inl rfl) lk_sRX11_473 (by decide +kernel) rfl rfl (by decide) (by decide) (by decide) rfl rfl (gD D_X11_nextForWave_0 22 rfl) (fun x64 s65 hq _ _ => ?_)
      replace hw := hq
      clear hq
      refine v_if_eq X 65 (gD D_X11_nextForWave_0 23 rfl) (by decide) (fun c66 => ?_) (fun c66 => ?_)
      · replace hw := hw.1 c66
        refine v_iinc X (x4 + 1) 6 rfl [(4, .int (x4 + 1)), (6, .int x62), (5, va_rf (some a60)), (0, va_rf (some a0)), (1, .int x1), (2, va_rf o2), (3, .int x3)] (gD D_X11_nextForWave_0 33 rfl) rfl (by decide) rfl ?_
        refine v_goto X 7 (gD D_X11_nextForWave_0 34 rfl) (by decide) ?_
        exact v_sub [3, 4] [3, 4, 5, 6, 0] rfl rfl (ih a0 x1 o2 x3 (x4 + 1) s65 hw)
      · replace hw := hw.2 c66
        refine v_aload_n X 4 rfl (gD D_X11_nextForWave_0 24 rfl) rfl ?_
        refine v_ifnull X 59 (gD D_X11_nextForWave_0 25 rfl) (by decide) (fun c67 => ?_) (fun a68 c67 => ?_)
        · replace hw := hw.1 c67
          subst c67
          refine v_aload X 1 rfl (gD D_X11_nextForWave_0 29 rfl) ?_
          refine v_astore_n X [(2, va_rf (some a60)), (6, .int x62), (5, va_rf (some a60)), (0, va_rf (some a0)), (1, .int x1), (3, .int x3), (4, .int x4)] (gD D_X11_nextForWave_0 30 rfl) rfl (by decide) rfl ?_
          refine v_iload X 1 rfl (gD D_X11_nextForWave_0 31 rfl) ?_
          refine v_istore_n X [(3, .int x62), (2, va_rf (some a60)), (6, .int x62), (5, va_rf (some a60)), (0, va_rf (some a0)), (1, .int x1), (4, .int x4)] (gD D_X11_nextForWave_0 32 rfl) rfl (by decide) rfl ?_
          refine v_iinc X (x4 + 1) 6 rfl [(4, .int (x4 + 1)), (3, .int x62), (2, va_rf (some a60)), (6, .int x62), (5, va_rf (some a60)), (0, va_rf (some a0)), (1, .int x1)] (gD D_X11_nextForWave_0 33 rfl) rfl (by decide) rfl ?_
          refine v_goto X 7 (gD D_X11_nextForWave_0 34 rfl) (by decide) ?_
          exact v_sub [3, 0] [5, 6, 2, 1, 0] rfl rfl (ih a0 x1 (some a60) x62 (x4 + 1) s65 hw)
        · replace hw := hw.2 a68 c67
          subst c67
          refine v_iload X 0 rfl (gD D_X11_nextForWave_0 26 rfl) ?_
          refine v_iload_n X 5 rfl (gD D_X11_nextForWave_0 27 rfl) rfl ?_
          refine v_icmp_ge X 65 (gD D_X11_nextForWave_0 28 rfl) (by decide) (fun c69 => ?_) (fun c69 => ?_)
          · replace hw := hw.1 c69
            refine v_iinc X (x4 + 1) 6 rfl [(4, .int (x4 + 1)), (6, .int x62), (5, va_rf (some a60)), (0, va_rf (some a0)), (1, .int x1), (2, va_rf (some a68)), (3, .int x3)] (gD D_X11_nextForWave_0 33 rfl) rfl (by decide) rfl ?_
            refine v_goto X 7 (gD D_X11_nextForWave_0 34 rfl) (by decide) ?_
            exact v_sub [3, 4] [3, 4, 5, 6, 0] rfl rfl (ih a0 x1 (some a68) x3 (x4 + 1) s65 hw)
          · replace hw := hw.2 c69
            refine v_aload X 1 rfl (gD D_X11_nextForWave_0 29 rfl) ?_
            refine v_astore_n X [(2, va_rf (some a60)), (6, .int x62), (5, va_rf (some a60)), (0, va_rf (some a0)), (1, .int x1), (3, .int x3), (4, .int x4)] (gD D_X11_nextForWave_0 30 rfl) rfl (by decide) rfl ?_
            refine v_iload X 1 rfl (gD D_X11_nextForWave_0 31 rfl) ?_
            refine v_istore_n X [(3, .int x62), (2, va_rf (some a60)), (6, .int x62), (5, va_rf (some a60)), (0, va_rf (some a0)), (1, .int x1), (4, .int x4)] (gD D_X11_nextForWave_0 32 rfl) rfl (by decide) rfl ?_
            refine v_iinc X (x4 + 1) 6 rfl [(4, .int (x4 + 1)), (3, .int x62), (2, va_rf (some a60)), (6, .int x62), (5, va_rf (some a60)), (0, va_rf (some a0)), (1, .int x1)] (gD D_X11_nextForWave_0 33 rfl) rfl (by decide) rfl ?_
            refine v_goto X 7 (gD D_X11_nextForWave_0 34 rfl) (by decide) ?_
            exact v_sub [3, 0] [5, 6, 2, 1, 0] rfl rfl (ih a0 x1 (some a60) x62 (x4 + 1) s65 hw)
set_option maxRecDepth 100000 in
set_option maxHeartbeats 4000000 in
theorem c_X11_nextForWave {l : Launch} {G : GX} (htr : l.stackTraces = false) {σ : St} {a0 : Nat} {x1 : Int32} {Q : Option Nat → St → Prop} (ht : tvOk σ [(some a0, 12)]) (hw : w_X11_nextForWave a0 x1 σ Q) : MR l G 1 σ yX11_nextForWave cX11_nextForWave 7 (some (.object RX2)) 3 0 0 [va_rf (some a0), .int x1] 3 Q := by
  unfold w_X11_nextForWave at hw
  refine m_start RX11 (by decide) htr ht (Nat.le_of_ble_eq_true rfl) rfl (lv := [(0, va_rf (some a0)), (1, .int x1)]) (d := 1) (fun p e s m args below meth c X hr hin => ?_)
  refine v_null X (gD D_X11_nextForWave_0 0 rfl) ?_
  refine v_astore_n X [(2, va_rf none), (0, va_rf (some a0)), (1, .int x1)] (gD D_X11_nextForWave_0 1 rfl) rfl (by decide) rfl ?_
  refine v_iconst X 0 (gD D_X11_nextForWave_0 2 rfl) (by decide) ?_
  refine v_istore_n X [(3, .int 0), (2, va_rf none), (0, va_rf (some a0)), (1, .int x1)] (gD D_X11_nextForWave_0 3 rfl) rfl (by decide) rfl ?_
  refine v_iconst X 0 (gD D_X11_nextForWave_0 4 rfl) (by decide) ?_
  refine v_istore X [(4, .int 0), (3, .int 0), (2, va_rf none), (0, va_rf (some a0)), (1, .int x1)] (gD D_X11_nextForWave_0 5 rfl) (by decide) rfl ?_
  refine v_nul 3 ?_
  obtain ⟨f70, hw⟩ := hw
  exact v_sub [1, 0] [3, 4, 2, 1, 0] rfl rfl (t_X11_nextForWave_7 X hr hin htr  f70 a0 x1 none 0 0 σ hw)
set_option maxRecDepth 100000 in
set_option maxHeartbeats 4000000 in
theorem t_X11_pack_45 {p : Program} {l : Launch} {e : Env} {s : State} {m : MethodId} {args : Array Value} {below : List Frame} {meth : Method} {c : Code} {G : GX} {σ0 : St} {mc ms : Nat} {Q : St → Prop} (X : VC p l (rmD 3 mc ms) s m args meth c G 3 mc ms 8 RX11 cX11_pack) (hr : meth.sig.returnType = none) (hin : meth.name = yX11_pack.name) (htr : l.stackTraces = false) {K27 : Nat → Nat → Int32 → Int32 → St → Prop} (hK27 : ∀ (a0 : Nat) (a1 : Nat) (x2 : Int32) (x3 : Int32) (σ : St), K27 a0 a1 x2 x3 σ → V p l e (rmD 3 mc ms) s m args below meth c (MQ below (va_Qv Q (gB G 1 σ0) (GA G)) args s mc ms (GA G)) G 1 σ0 mc ms 8 σ 0 0 [(some a0, 12), (some a1, 8)] 27 [(0, va_rf (some a0)), (1, va_rf (some a1)), (2, .int x2), (3, .int x3)] []) : ∀ (f : Nat) (a0 : Nat) (a1 : Nat) (x2 : Int32) (x3 : Int32) (o4 : Option Nat) (x5 : Int32) (x6 : Int32) (σ : St), w_X11_pack_45 Q K27 f a0 a1 x2 x3 o4 x5 x6 σ → V p l e (rmD 3 mc ms) s m args below meth c (MQ below (va_Qv Q (gB G 1 σ0) (GA G)) args s mc ms (GA G)) G 1 σ0 mc ms 8 σ 0 0 [(some a0, 12), (some a1, 8), (o4, 25)] 45 [(0, va_rf (some a0)), (1, va_rf (some a1)), (2, .int x2), (3, .int x3), (4, va_rf o4), (5, .int x5), (6, .int x6)] [] := by
  intro f
  induction f with
  | zero => intro a0 a1 x2 x3 o4 x5 x6 σ hw; exact hw.elim
  | succ f ih =>
    intro a0 a1 x2 x3 o4 x5 x6 σ hw
    unfold w_X11_pack_45 at hw
    refine v_iload X 6 rfl (gD D_X11_pack_0 24 rfl) ?_
    refine v_iload X 5 rfl (gD D_X11_pack_0 25 rfl) ?_
    refine v_icmp_ge X 88 (gD D_X11_pack_0 26 rfl) (by decide) (fun c57 => ?_) (fun c57 => ?_)
    · replace hw := hw.1 c57
      refine v_iinc X (x3 + (-1)) 3 rfl [(3, .int (x3 + (-1))), (0, va_rf (some a0)), (1, va_rf (some a1)), (2, .int x2), (4, va_rf o4), (5, .int x5), (6, .int x6)] (gD D_X11_pack_0 45 rfl) rfl (by decide) rfl ?_
      refine v_goto X 27 (gD D_X11_pack_0 46 rfl) (by decide) ?_
      exact v_sub [0, 1] [1, 2, 3, 0] rfl rfl (hK27 a0 a1 x2 (x3 + (-1)) σ hw)
    · replace hw := hw.2 c57
      refine v_aload X 4 rfl (gD D_X11_pack_0 27 rfl) ?_
      refine v_iload X 6 rfl (gD D_X11_pack_0 28 rfl) ?_
      obtain ⟨a58, rfl, hw⟩ := hw
      obtain ⟨h59, hw⟩ := hw
      refine v_aald X 2 4 rfl (by decide) h59 (gD D_X11_pack_0 29 rfl) (fun o60 eo60 => ?_)
      replace hw := hw o60 eo60
      refine v_astore X [(7, va_rf o60), (0, va_rf (some a0)), (1, va_rf (some a1)), (2, .int x2), (3, .int x3), (4, va_rf (some a58)), (5, .int x5), (6, .int x6)] (gD D_X11_pack_0 30 rfl) (by decide) rfl ?_
      refine v_aload X 0 rfl (gD D_X11_pack_0 31 rfl) ?_
      obtain ⟨a61, rfl, hw⟩ := hw
      refine v_getI X RX3 TX3 6 4 3 (by decide) rfl gin3 2 302 RX3 (Or.inl rfl) 0 rfl rfl (by decide) lk_fRX11_127 (gD D_X11_pack_0 32 rfl) ?_
      refine v_iload_n X 4 rfl (gD D_X11_pack_0 33 rfl) rfl ?_
      refine v_icmp_ne X 82 (gD D_X11_pack_0 34 rfl) (by decide) (fun c62 => ?_) (fun c62 => ?_)
      · replace hw := hw.1 c62
        refine v_iinc X (x6 + 1) 7 rfl [(6, .int (x6 + 1)), (7, va_rf (some a61)), (0, va_rf (some a0)), (1, va_rf (some a1)), (2, .int x2), (3, .int x3), (4, va_rf (some a58)), (5, .int x5)] (gD D_X11_pack_0 43 rfl) rfl (by decide) rfl ?_
        refine v_goto X 45 (gD D_X11_pack_0 44 rfl) (by decide) ?_
        exact v_sub [1, 2, 3] [2, 3, 4, 5, 6, 7, 0] rfl rfl (ih a0 a1 x2 x3 (some a58) x5 (x6 + 1) σ hw)
      · replace hw := hw.2 c62
        refine v_aload_n X 1 rfl (gD D_X11_pack_0 35 rfl) rfl ?_
        refine v_aload X 0 rfl (gD D_X11_pack_0 36 rfl) ?_
        refine v_aload_n X 1 rfl (gD D_X11_pack_0 37 rfl) rfl ?_
        refine v_aload_n X 2 rfl (gD D_X11_pack_0 38 rfl) rfl ?_
        refine v_aload X 0 rfl (gD D_X11_pack_0 39 rfl) ?_
        refine v_callVi X (As := [va_rf (some a1), va_rf (some a61)]) (rest := [va_rf (some a61), va_rf (some a0)]) (nA := 2) 0 0 0 0 (fun ht => c_X11_piecesToPack htr (ht.sub [1, 2, 0] rfl) hw) (Or.inl rfl) 1 (κ := 12) rfl (by decide) (rfl : gCl[11]? = some (RX11, TX11, 19)) lk_vRX11_514 (by decide +kernel) rfl rfl (by simp [rf_cat, ct_i]) (by decide) (by decide) rfl rfl (gD D_X11_pack_0 40 rfl) (fun x63 s64 hq _ _ => ?_)
        replace hw := hq
        clear hq
        refine v_iload_n X 3 rfl (gD D_X11_pack_0 41 rfl) rfl ?_
        refine v_callVv X (As := [va_rf (some a61), .int x63, .int x2]) (rest := []) (nA := 3) 0 0 0 0 (fun ht => c_X11_fillBoxes htr (ht.sub [1, 0] rfl) hw) (Or.inl rfl) 1 (κ := 12) rfl (by decide) (rfl : gCl[11]? = some (RX11, TX11, 19)) lk_vRX11_517 (by decide +kernel) rfl rfl (by decide) (by decide) (by decide) rfl rfl (gD D_X11_pack_0 42 rfl) (fun s66 hq _ _ => ?_)
        replace hw := hq
        clear hq
        refine v_iinc X (x6 + 1) 7 rfl [(6, .int (x6 + 1)), (7, va_rf (some a61)), (0, va_rf (some a0)), (1, va_rf (some a1)), (2, .int x2), (3, .int x3), (4, va_rf (some a58)), (5, .int x5)] (gD D_X11_pack_0 43 rfl) rfl (by decide) rfl ?_
        refine v_goto X 45 (gD D_X11_pack_0 44 rfl) (by decide) ?_
        exact v_sub [1, 2, 3] [2, 3, 4, 5, 6, 7, 0] rfl rfl (ih a0 a1 x2 x3 (some a58) x5 (x6 + 1) s66 hw)
set_option maxRecDepth 100000 in
set_option maxHeartbeats 4000000 in
theorem t_X11_pack_27 {p : Program} {l : Launch} {e : Env} {s : State} {m : MethodId} {args : Array Value} {below : List Frame} {meth : Method} {c : Code} {G : GX} {σ0 : St} {mc ms : Nat} {Q : St → Prop} (X : VC p l (rmD 3 mc ms) s m args meth c G 3 mc ms 8 RX11 cX11_pack) (hr : meth.sig.returnType = none) (hin : meth.name = yX11_pack.name) (htr : l.stackTraces = false) : ∀ (f : Nat) (a0 : Nat) (a1 : Nat) (x2 : Int32) (x3 : Int32) (σ : St), w_X11_pack_27 Q  f a0 a1 x2 x3 σ → V p l e (rmD 3 mc ms) s m args below meth c (MQ below (va_Qv Q (gB G 1 σ0) (GA G)) args s mc ms (GA G)) G 1 σ0 mc ms 8 σ 0 0 [(some a0, 12), (some a1, 8)] 27 [(0, va_rf (some a0)), (1, va_rf (some a1)), (2, .int x2), (3, .int x3)] [] := by
  intro f
  induction f with
  | zero => intro a0 a1 x2 x3 σ hw; exact hw.elim
  | succ f ih =>
    intro a0 a1 x2 x3 σ hw
    unfold w_X11_pack_27 at hw
    refine v_iload_n X 3 rfl (gD D_X11_pack_0 14 rfl) rfl ?_
    refine v_if_le X 94 (gD D_X11_pack_0 15 rfl) (by decide) (fun c53 => ?_) (fun c53 => ?_)
    · replace hw := hw.1 c53
      exact v_vret X hr hw (gD D_X11_pack_0 47 rfl)
    · replace hw := hw.2 c53
      refine v_aload_n X 0 rfl (gD D_X11_pack_0 16 rfl) rfl ?_
      refine v_getR X RX11 TX11 19 12 11 (by decide) rfl gin11 1 1101 RX11 (Or.inl rfl) 0 25 rfl rfl rfl (by decide) lk_fRX11_17 (gD D_X11_pack_0 17 rfl) (fun o54 eo54 => ?_)
      replace hw := hw o54 eo54
      refine v_astore X [(4, va_rf o54), (0, va_rf (some a0)), (1, va_rf (some a1)), (2, .int x2), (3, .int x3)] (gD D_X11_pack_0 18 rfl) (by decide) rfl ?_
      refine v_aload X 0 rfl (gD D_X11_pack_0 19 rfl) ?_
      obtain ⟨a55, rfl, hw⟩ := hw
      refine v_alen X 0 rfl (by decide) (gD D_X11_pack_0 20 rfl) ?_
      refine v_topi (fun x56 ex56 => ?_)
      replace hw := hw x56 ex56
      refine v_istore X [(5, .int x56), (4, va_rf (some a55)), (0, va_rf (some a0)), (1, va_rf (some a1)), (2, .int x2), (3, .int x3)] (gD D_X11_pack_0 21 rfl) (by decide) rfl ?_
      refine v_iconst X 0 (gD D_X11_pack_0 22 rfl) (by decide) ?_
      refine v_istore X [(6, .int 0), (5, .int x56), (4, va_rf (some a55)), (0, va_rf (some a0)), (1, va_rf (some a1)), (2, .int x2), (3, .int x3)] (gD D_X11_pack_0 23 rfl) (by decide) rfl ?_
      obtain ⟨f67, hw⟩ := hw
      exact v_sub [1, 2, 0] [3, 4, 5, 6, 2, 1, 0] rfl rfl (t_X11_pack_45 X hr hin htr ih f67 a0 a1 x2 x3 (some a55) x56 0 σ hw)
set_option maxRecDepth 100000 in
set_option maxHeartbeats 4000000 in
theorem t_X11_pack_18 {p : Program} {l : Launch} {e : Env} {s : State} {m : MethodId} {args : Array Value} {below : List Frame} {meth : Method} {c : Code} {G : GX} {σ0 : St} {mc ms : Nat} {Q : St → Prop} (X : VC p l (rmD 3 mc ms) s m args meth c G 3 mc ms 8 RX11 cX11_pack) (hr : meth.sig.returnType = none) (hin : meth.name = yX11_pack.name) (htr : l.stackTraces = false) : ∀ (a0 : Nat) (a1 : Nat) (xs0 : Int32) (σ : St), w_X11_pack_18 Q  a0 a1 xs0 σ → V p l e (rmD 3 mc ms) s m args below meth c (MQ below (va_Qv Q (gB G 1 σ0) (GA G)) args s mc ms (GA G)) G 1 σ0 mc ms 8 σ 0 0 [(some a0, 12), (some a1, 8)] 18 [(0, va_rf (some a0)), (1, va_rf (some a1))] [.int xs0] := by
  intro a0 a1 xs0 σ hw
  unfold w_X11_pack_18 at hw
  refine v_istore_n X [(2, .int xs0), (0, va_rf (some a0)), (1, va_rf (some a1))] (gD D_X11_pack_0 8 rfl) rfl (by decide) rfl ?_
  refine v_aload_n X 1 rfl (gD D_X11_pack_0 9 rfl) rfl ?_
  refine v_iconst X 0 (gD D_X11_pack_0 10 rfl) (by decide) ?_
  refine v_putI X RX11 TX11 19 12 11 (by decide) rfl gin11 14 1114 tyX11 tyX11_ok nmX11 RX11 (Or.inl rfl) 0 rfl .int (int_fit _) rfl (by decide) (Or.inl rfl) lk_fRX11_352 rfl rfl (gD D_X11_pack_0 11 rfl) (fun s52 es52 => ?_)
  replace hw := hw s52 es52
  refine v_bipush X 9 (gD D_X11_pack_0 12 rfl) (by decide) ?_
  refine v_istore_n X [(3, .int 9), (2, .int xs0), (0, va_rf (some a0)), (1, va_rf (some a1))] (gD D_X11_pack_0 13 rfl) rfl (by decide) rfl ?_
  obtain ⟨f68, hw⟩ := hw
  exact v_sub [0, 1] [2, 3, 1, 0] rfl rfl (t_X11_pack_27 X hr hin htr  f68 a0 a1 xs0 9 s52 hw)
set_option maxRecDepth 100000 in
set_option maxHeartbeats 4000000 in
theorem c_X11_pack {l : Launch} {G : GX} (htr : l.stackTraces = false) {σ : St} {a0 : Nat} {a1 : Nat} {Q : St → Prop} (ht : tvOk σ [(some a0, 12), (some a1, 8)]) (hw : w_X11_pack a0 a1 σ Q) : MV l G 1 σ yX11_pack cX11_pack 8 3 0 0 [va_rf (some a0), va_rf (some a1)] Q := by
  unfold w_X11_pack at hw
  refine m_start RX11 (by decide) htr ht (Nat.le_of_ble_eq_true rfl) rfl (lv := [(0, va_rf (some a0)), (1, va_rf (some a1))]) (d := 1) (fun p e s m args below meth c X hr hin => ?_)
  refine v_aload_n X 1 rfl (gD D_X11_pack_0 0 rfl) rfl ?_
  refine v_getI X RX7 TX7 7 8 7 (by decide) rfl gin7 5 705 RX7 (Or.inl rfl) 1 rfl rfl (by decide) lk_fRX11_246 (gD D_X11_pack_0 1 rfl) ?_
  refine v_if_eq X 14 (gD D_X11_pack_0 2 rfl) (by decide) (fun c51 => ?_) (fun c51 => ?_)
  · replace hw := hw.1 c51
    refine v_aload_n X 0 rfl (gD D_X11_pack_0 6 rfl) rfl ?_
    refine v_getI X RX11 TX11 19 12 11 (by decide) rfl gin11 15 1115 RX11 (Or.inl rfl) 0 rfl rfl (by decide) lk_fRX11_139 (gD D_X11_pack_0 7 rfl) ?_
    exact v_sub [0, 1] [0, 1] rfl rfl (t_X11_pack_18 X hr hin htr  a0 a1 (sI σ 1115 a0) σ hw)
  · replace hw := hw.2 c51
    refine v_aload_n X 1 rfl (gD D_X11_pack_0 3 rfl) rfl ?_
    refine v_getI X RX7 TX7 7 8 7 (by decide) rfl gin7 6 706 RX7 (Or.inl rfl) 1 rfl rfl (by decide) lk_fRX11_359 (gD D_X11_pack_0 4 rfl) ?_
    refine v_goto X 18 (gD D_X11_pack_0 5 rfl) (by decide) ?_
    exact v_sub [0, 1] [0, 1] rfl rfl (t_X11_pack_18 X hr hin htr  a0 a1 (sI σ 706 a1) σ hw)
set_option maxRecDepth 100000 in
set_option maxHeartbeats 4000000 in
theorem t_X11_piecesGoodFor_41 {p : Program} {l : Launch} {e : Env} {s : State} {m : MethodId} {args : Array Value} {below : List Frame} {meth : Method} {c : Code} {G : GX} {σ0 : St} {mc ms : Nat} {Q : Int32 → St → Prop} (X : VC p l (rmD 3 mc ms) s m args meth c G 3 mc ms 6 RX11 cX11_piecesGoodFor) (hr : meth.sig.returnType = (some .int)) (hin : meth.name = yX11_piecesGoodFor.name) (htr : l.stackTraces = false) {K5 : Nat → Nat → Nat → Int32 → Int32 → St → Prop} (hK5 : ∀ (a0 : Nat) (a1 : Nat) (a2 : Nat) (x3 : Int32) (x4 : Int32) (σ : St), K5 a0 a1 a2 x3 x4 σ → V p l e (rmD 3 mc ms) s m args below meth c (MQ below (va_Qi Q (gB G 1 σ0) (GA G)) args s mc ms (GA G)) G 1 σ0 mc ms 6 σ 0 0 [(some a0, 12), (some a1, 8), (some a2, 4)] 5 [(0, va_rf (some a0)), (1, va_rf (some a1)), (2, va_rf (some a2)), (3, .int x3), (4, .int x4)] []) : ∀ (f : Nat) (a0 : Nat) (a1 : Nat) (a2 : Nat) (x3 : Int32) (x4 : Int32) (x5 : Int32) (σ : St), w_X11_piecesGoodFor_41 Q K5 f a0 a1 a2 x3 x4 x5 σ → V p l e (rmD 3 mc ms) s m args below meth c (MQ below (va_Qi Q (gB G 1 σ0) (GA G)) args s mc ms (GA G)) G 1 σ0 mc ms 6 σ 0 0 [(some a0, 12), (some a1, 8), (some a2, 4)] 41 [(0, va_rf (some a0)), (1, va_rf (some a1)), (2, va_rf (some a2)), (3, .int x3), (4, .int x4), (5, .int x5)] [] := by
  intro f
  induction f with
  | zero => intro a0 a1 a2 x3 x4 x5 σ hw; exact hw.elim
  | succ f ih =>
    intro a0 a1 a2 x3 x4 x5 σ hw
    unfold w_X11_piecesGoodFor_41 at hw
    refine v_iload X 5 rfl (gD D_X11_piecesGoodFor_0 21 rfl) ?_
    refine v_bipush X 18 (gD D_X11_piecesGoodFor_0 22 rfl) (by decide) ?_
    refine v_icmp_ge X 68 (gD D_X11_piecesGoodFor_0 23 rfl) (by decide) (fun c65 => ?_) (fun c65 => ?_)
    · replace hw := hw.1 c65
      refine v_iinc X (x4 + 1) 4 rfl [(4, .int (x4 + 1)), (0, va_rf (some a0)), (1, va_rf (some a1)), (2, va_rf (some a2)), (3, .int x3), (5, .int x5)] (gD D_X11_piecesGoodFor_0 34 rfl) rfl (by decide) rfl ?_
      refine v_goto X 5 (gD D_X11_piecesGoodFor_0 35 rfl) (by decide) ?_
      exact v_sub [0, 1, 2] [1, 2, 3, 4, 0] rfl rfl (hK5 a0 a1 a2 x3 (x4 + 1) σ hw)
    · replace hw := hw.2 c65
      refine v_iload_n X 3 rfl (gD D_X11_piecesGoodFor_0 24 rfl) rfl ?_
      refine v_aload_n X 0 rfl (gD D_X11_piecesGoodFor_0 25 rfl) rfl ?_
      refine v_getR X RX11 TX11 19 12 11 (by decide) rfl gin11 9 1109 RX11 (Or.inl rfl) 0 1 rfl rfl rfl (by decide) lk_fRX11_52 (gD D_X11_piecesGoodFor_0 26 rfl) (fun o66 eo66 => ?_)
      replace hw := hw o66 eo66
      refine v_iload X 5 rfl (gD D_X11_piecesGoodFor_0 27 rfl) ?_
      refine v_iload X 4 rfl (gD D_X11_piecesGoodFor_0 28 rfl) ?_
      obtain ⟨a67, rfl, hw⟩ := hw
      refine v_callVi X (As := [.int x5, .int x4]) (rest := [.int x3]) (nA := 2) 0 0 0 0 (fun ht => c_X0_freePieces htr (ht.sub [0] rfl) hw) (Or.inl rfl) 0 (κ := 1) rfl (by decide) (rfl : gCl[0]? = some (RX0, TX0, 8)) lk_vRX11_183 (by decide +kernel) rfl rfl (by simp [rf_cat, ct_i]) (by decide) (by decide) rfl rfl (gD D_X11_piecesGoodFor_0 29 rfl) (fun x68 s69 hq _ _ => ?_)
      replace hw := hq
      clear hq
      refine v_iadd X (gD D_X11_piecesGoodFor_0 30 rfl) ?_
      refine v_topi (fun x70 ex70 => ?_)
      replace hw := hw x70 ex70
      refine v_istore_n X [(3, .int x70), (0, va_rf (some a0)), (1, va_rf (some a1)), (2, va_rf (some a2)), (4, .int x4), (5, .int x5)] (gD D_X11_piecesGoodFor_0 31 rfl) rfl (by decide) rfl ?_
      refine v_iinc X (x5 + 1) 5 rfl [(5, .int (x5 + 1)), (3, .int x70), (0, va_rf (some a0)), (1, va_rf (some a1)), (2, va_rf (some a2)), (4, .int x4)] (gD D_X11_piecesGoodFor_0 32 rfl) rfl (by decide) rfl ?_
      refine v_goto X 41 (gD D_X11_piecesGoodFor_0 33 rfl) (by decide) ?_
      exact v_sub [1, 2, 3] [2, 3, 4, 1, 5, 0] rfl rfl (ih a0 a1 a2 x70 x4 (x5 + 1) s69 hw)
set_option maxRecDepth 100000 in
set_option maxHeartbeats 4000000 in
theorem t_X11_piecesGoodFor_5 {p : Program} {l : Launch} {e : Env} {s : State} {m : MethodId} {args : Array Value} {below : List Frame} {meth : Method} {c : Code} {G : GX} {σ0 : St} {mc ms : Nat} {Q : Int32 → St → Prop} (X : VC p l (rmD 3 mc ms) s m args meth c G 3 mc ms 6 RX11 cX11_piecesGoodFor) (hr : meth.sig.returnType = (some .int)) (hin : meth.name = yX11_piecesGoodFor.name) (htr : l.stackTraces = false) : ∀ (f : Nat) (a0 : Nat) (a1 : Nat) (a2 : Nat) (x3 : Int32) (x4 : Int32) (σ : St), w_X11_piecesGoodFor_5 Q  f a0 a1 a2 x3 x4 σ → V p l e (rmD 3 mc ms) s m args below meth c (MQ below (va_Qi Q (gB G 1 σ0) (GA G)) args s mc ms (GA G)) G 1 σ0 mc ms 6 σ 0 0 [(some a0, 12), (some a1, 8), (some a2, 4)] 5 [(0, va_rf (some a0)), (1, va_rf (some a1)), (2, va_rf (some a2)), (3, .int x3), (4, .int x4)] [] := by
  intro f
  induction f with
  | zero => intro a0 a1 a2 x3 x4 σ hw; exact hw.elim
  | succ f ih =>
    intro a0 a1 a2 x3 x4 σ hw
    unfold w_X11_piecesGoodFor_5 at hw
    refine v_iload X 4 rfl (gD D_X11_piecesGoodFor_0 4 rfl) ?_
    refine v_aload_n X 0 rfl (gD D_X11_piecesGoodFor_0 5 rfl) rfl ?_
    refine v_getR X RX11 TX11 19 12 11 (by decide) rfl gin11 3 1103 RX11 (Or.inl rfl) 0 30 rfl rfl rfl (by decide) lk_fRX11_30 (gD D_X11_piecesGoodFor_0 6 rfl) (fun o51 eo51 => ?_)
    replace hw := hw o51 eo51
    obtain ⟨a52, rfl, hw⟩ := hw
    refine v_callVi X (As := []) (rest := [.int x4]) (nA := 0) 0 0 0 0 (fun ht => c_Jx4a65c_size_8abf5 htr (ht.sub [0] rfl) hw) (Or.inl rfl) 0 (κ := 30) rfl (by decide) (rfl : gCl[13]? = some (RJx4a65c, TJx4a65c, 3)) lk_vRX11_145 (by decide +kernel) rfl rfl (by simp [rf_cat, ct_i]) (by decide) (by decide) rfl rfl (gD D_X11_piecesGoodFor_0 7 rfl) (fun x53 s54 hq _ _ => ?_)
    replace hw := hq
    clear hq
    refine v_icmp_ge X 74 (gD D_X11_piecesGoodFor_0 8 rfl) (by decide) (fun c55 => ?_) (fun c55 => ?_)
    · replace hw := hw.1 c55
      refine v_iload_n X 3 rfl (gD D_X11_piecesGoodFor_0 36 rfl) rfl ?_
      exact v_iret X hr hw (gD D_X11_piecesGoodFor_0 37 rfl)
    · replace hw := hw.2 c55
      refine v_aload_n X 0 rfl (gD D_X11_piecesGoodFor_0 9 rfl) rfl ?_
      refine v_aload_n X 1 rfl (gD D_X11_piecesGoodFor_0 10 rfl) rfl ?_
      refine v_aload_n X 2 rfl (gD D_X11_piecesGoodFor_0 11 rfl) rfl ?_
      refine v_aload_n X 0 rfl (gD D_X11_piecesGoodFor_0 12 rfl) rfl ?_
      refine v_getR X RX11 TX11 19 12 11 (by decide) rfl gin11 3 1103 RX11 (Or.inl rfl) 1 30 rfl rfl rfl (by decide) lk_fRX11_30 (gD D_X11_piecesGoodFor_0 13 rfl) (fun o56 eo56 => ?_)
      replace hw := hw o56 eo56
      refine v_iload X 4 rfl (gD D_X11_piecesGoodFor_0 14 rfl) ?_
      obtain ⟨a57, rfl, hw⟩ := hw
      refine v_callVu X (As := [.int x4]) (rest := [va_rf (some a2), va_rf (some a1), va_rf (some a0)]) (nA := 1) 0 0 0 0 (fun ht => c_Jx4a65c_get_915e3 htr (ht.sub [0] rfl) hw) (Or.inl rfl) 0 (κ := 30) rfl (by decide) (rfl : gCl[13]? = some (RJx4a65c, TJx4a65c, 3)) lk_vRX11_153 (by decide +kernel) rfl rfl (by simp [rf_cat, ct_i]) (by decide) (by decide) rfl rfl (gD D_X11_piecesGoodFor_0 15 rfl) (fun o58 s59 hq _ _ => ?_)
      replace hw := hq
      clear hq
      obtain ⟨a60, rfl, hw⟩ := hw
      obtain ⟨h61, hw⟩ := hw
      refine v_cast X RX5 TX5 4 6 5 h61 (by decide) rfl lk_kRX11_148 (gD D_X11_piecesGoodFor_0 16 rfl) ?_
      refine v_callVi X (As := [va_rf (some a1), va_rf (some a2), va_rf (some a60)]) (rest := []) (nA := 3) 0 0 0 0 (fun ht => c_X11_isGoodFor htr (ht.sub [3, 4, 5, 0] rfl) hw) (Or.inl rfl) 3 (κ := 12) rfl (by decide) (rfl : gCl[11]? = some (RX11, TX11, 19)) lk_vRX11_459 (by decide +kernel) rfl rfl (by decide) (by decide) (by decide) rfl rfl (gD D_X11_piecesGoodFor_0 17 rfl) (fun x62 s63 hq _ _ => ?_)
      replace hw := hq
      clear hq
      refine v_if_eq X 68 (gD D_X11_piecesGoodFor_0 18 rfl) (by decide) (fun c64 => ?_) (fun c64 => ?_)
      · replace hw := hw.1 c64
        refine v_iinc X (x4 + 1) 4 rfl [(4, .int (x4 + 1)), (0, va_rf (some a0)), (1, va_rf (some a1)), (2, va_rf (some a2)), (3, .int x3)] (gD D_X11_piecesGoodFor_0 34 rfl) rfl (by decide) rfl ?_
        refine v_goto X 5 (gD D_X11_piecesGoodFor_0 35 rfl) (by decide) ?_
        exact v_sub [3, 4, 5] [1, 2, 3, 4, 0] rfl rfl (ih a0 a1 a2 x3 (x4 + 1) s63 hw)
      · replace hw := hw.2 c64
        refine v_iconst X 0 (gD D_X11_piecesGoodFor_0 19 rfl) (by decide) ?_
        refine v_istore X [(5, .int 0), (0, va_rf (some a0)), (1, va_rf (some a1)), (2, va_rf (some a2)), (3, .int x3), (4, .int x4)] (gD D_X11_piecesGoodFor_0 20 rfl) (by decide) rfl ?_
        obtain ⟨f71, hw⟩ := hw
        exact v_sub [3, 4, 5] [1, 2, 3, 4, 5, 0] rfl rfl (t_X11_piecesGoodFor_41 X hr hin htr ih f71 a0 a1 a2 x3 x4 0 s63 hw)
set_option maxRecDepth 100000 in
set_option maxHeartbeats 4000000 in
theorem c_X11_piecesGoodFor {l : Launch} {G : GX} (htr : l.stackTraces = false) {σ : St} {a0 : Nat} {a1 : Nat} {a2 : Nat} {Q : Int32 → St → Prop} (ht : tvOk σ [(some a0, 12), (some a1, 8), (some a2, 4)]) (hw : w_X11_piecesGoodFor a0 a1 a2 σ Q) : MI l G 1 σ yX11_piecesGoodFor cX11_piecesGoodFor 6 (some .int) 3 0 0 [va_rf (some a0), va_rf (some a1), va_rf (some a2)] Q := by
  unfold w_X11_piecesGoodFor at hw
  refine m_start RX11 (by decide) htr ht (Nat.le_of_ble_eq_true rfl) rfl (lv := [(0, va_rf (some a0)), (1, va_rf (some a1)), (2, va_rf (some a2))]) (d := 1) (fun p e s m args below meth c X hr hin => ?_)
  refine v_iconst X 0 (gD D_X11_piecesGoodFor_0 0 rfl) (by decide) ?_
  refine v_istore_n X [(3, .int 0), (0, va_rf (some a0)), (1, va_rf (some a1)), (2, va_rf (some a2))] (gD D_X11_piecesGoodFor_0 1 rfl) rfl (by decide) rfl ?_
  refine v_iconst X 0 (gD D_X11_piecesGoodFor_0 2 rfl) (by decide) ?_
  refine v_istore X [(4, .int 0), (3, .int 0), (0, va_rf (some a0)), (1, va_rf (some a1)), (2, va_rf (some a2))] (gD D_X11_piecesGoodFor_0 3 rfl) (by decide) rfl ?_
  obtain ⟨f72, hw⟩ := hw
  exact v_sub [0, 1, 2] [2, 3, 4, 1, 0] rfl rfl (t_X11_piecesGoodFor_5 X hr hin htr  f72 a0 a1 a2 0 0 σ hw)
set_option maxRecDepth 100000 in
set_option maxHeartbeats 4000000 in
theorem t_X11_piecesThatCame_67 {p : Program} {l : Launch} {e : Env} {s : State} {m : MethodId} {args : Array Value} {below : List Frame} {meth : Method} {c : Code} {G : GX} {σ0 : St} {mc ms : Nat} {Q : Int32 → St → Prop} (X : VC p l (rmD 3 mc ms) s m args meth c G 3 mc ms 7 RX11 cX11_piecesThatCame) (hr : meth.sig.returnType = (some .int)) (hin : meth.name = yX11_piecesThatCame.name) (htr : l.stackTraces = false) {K31 : Nat → Int32 → Int32 → Option Nat → Int32 → Int32 → St → Prop} (hK31 : ∀ (a0 : Nat) (x1 : Int32) (x2 : Int32) (o3 : Option Nat) (x4 : Int32) (x5 : Int32) (σ : St), K31 a0 x1 x2 o3 x4 x5 σ → V p l e (rmD 3 mc ms) s m args below meth c (MQ below (va_Qi Q (gB G 1 σ0) (GA G)) args s mc ms (GA G)) G 1 σ0 mc ms 7 σ 0 0 [(some a0, 12), (o3, 4)] 31 [(0, va_rf (some a0)), (1, .int x1), (2, .int x2), (3, va_rf o3), (4, .int x4), (5, .int x5)] []) : ∀ (a0 : Nat) (x1 : Int32) (x2 : Int32) (o3 : Option Nat) (x4 : Int32) (x5 : Int32) (xs0 : Int32) (σ : St), w_X11_piecesThatCame_67 Q K31 a0 x1 x2 o3 x4 x5 xs0 σ → V p l e (rmD 3 mc ms) s m args below meth c (MQ below (va_Qi Q (gB G 1 σ0) (GA G)) args s mc ms (GA G)) G 1 σ0 mc ms 7 σ 0 0 [(some a0, 12), (o3, 4)] 67 [(0, va_rf (some a0)), (1, .int x1), (2, .int x2), (3, va_rf o3), (4, .int x4), (5, .int x5)] [.int xs0] := by
  intro a0 x1 x2 o3 x4 x5 xs0 σ hw
  unfold w_X11_piecesThatCame_67 at hw
  refine v_istore X [(6, .int xs0), (0, va_rf (some a0)), (1, .int x1), (2, .int x2), (3, va_rf o3), (4, .int x4), (5, .int x5)] (gD D_X11_piecesThatCame_0 33 rfl) (by decide) rfl ?_
  refine v_iload X 0 rfl (gD D_X11_piecesThatCame_0 34 rfl) ?_
  refine v_iload_n X 3 rfl (gD D_X11_piecesThatCame_0 35 rfl) rfl ?_
  refine v_icmp_ne X 90 (gD D_X11_piecesThatCame_0 36 rfl) (by decide) (fun c74 => ?_) (fun c74 => ?_)
  · replace hw := hw.1 c74
    refine v_iinc X (x5 + 1) 6 rfl [(5, .int (x5 + 1)), (6, .int xs0), (0, va_rf (some a0)), (1, .int x1), (2, .int x2), (3, va_rf o3), (4, .int x4)] (gD D_X11_piecesThatCame_0 45 rfl) rfl (by decide) rfl ?_
    refine v_goto X 31 (gD D_X11_piecesThatCame_0 46 rfl) (by decide) ?_
    exact v_sub [0, 1] [2, 3, 4, 5, 6, 0] rfl rfl (hK31 a0 x1 x2 o3 x4 (x5 + 1) σ hw)
  · replace hw := hw.2 c74
    refine v_iload X 5 rfl (gD D_X11_piecesThatCame_0 37 rfl) ?_
    refine v_aload_n X 1 rfl (gD D_X11_piecesThatCame_0 38 rfl) rfl ?_
    refine v_getR X RX11 TX11 19 12 11 (by decide) rfl gin11 10 1110 RX11 (Or.inl rfl) 0 2 rfl rfl rfl (by decide) lk_fRX11_61 (gD D_X11_piecesThatCame_0 39 rfl) (fun o75 eo75 => ?_)
    replace hw := hw o75 eo75
    refine v_iload_n X 2 rfl (gD D_X11_piecesThatCame_0 40 rfl) rfl ?_
    refine v_iload X 6 rfl (gD D_X11_piecesThatCame_0 41 rfl) ?_
    obtain ⟨a76, rfl, hw⟩ := hw
    refine v_callVi X (As := [.int x1, .int x5]) (rest := [.int x4]) (nA := 2) 0 0 0 0 (fun ht => c_X1_at htr (ht.sub [0] rfl) hw) (Or.inl rfl) 0 (κ := 2) rfl (by decide) (rfl : gCl[1]? = some (RX1, TX1, 2)) lk_vRX11_176 (by decide +kernel) rfl rfl (by simp [rf_cat, ct_i]) (by decide) (by decide) rfl rfl (gD D_X11_piecesThatCame_0 42 rfl) (fun x77 s78 hq _ _ => ?_)
    replace hw := hq
    clear hq
    refine v_iadd X (gD D_X11_piecesThatCame_0 43 rfl) ?_
    refine v_topi (fun x79 ex79 => ?_)
    replace hw := hw x79 ex79
    refine v_istore X [(4, .int x79), (6, .int xs0), (0, va_rf (some a0)), (1, .int x1), (2, .int x2), (3, va_rf o3), (5, .int x5)] (gD D_X11_piecesThatCame_0 44 rfl) (by decide) (by simp [List.filter_cons, rf_cat]) ?_
    refine v_iinc X (x5 + 1) 6 rfl [(5, .int (x5 + 1)), (4, .int x79), (6, .int xs0), (0, va_rf (some a0)), (1, .int x1), (2, .int x2), (3, va_rf o3)] (gD D_X11_piecesThatCame_0 45 rfl) rfl (by decide) rfl ?_
    refine v_goto X 31 (gD D_X11_piecesThatCame_0 46 rfl) (by decide) ?_
    exact v_sub [1, 2] [3, 4, 5, 6, 1, 0] rfl rfl (hK31 a0 x1 x2 o3 x79 (x5 + 1) s78 hw)
set_option maxRecDepth 100000 in
set_option maxHeartbeats 4000000 in
theorem t_X11_piecesThatCame_31 {p : Program} {l : Launch} {e : Env} {s : State} {m : MethodId} {args : Array Value} {below : List Frame} {meth : Method} {c : Code} {G : GX} {σ0 : St} {mc ms : Nat} {Q : Int32 → St → Prop} (X : VC p l (rmD 3 mc ms) s m args meth c G 3 mc ms 7 RX11 cX11_piecesThatCame) (hr : meth.sig.returnType = (some .int)) (hin : meth.name = yX11_piecesThatCame.name) (htr : l.stackTraces = false) : ∀ (f : Nat) (a0 : Nat) (x1 : Int32) (x2 : Int32) (o3 : Option Nat) (x4 : Int32) (x5 : Int32) (σ : St), w_X11_piecesThatCame_31 Q  f a0 x1 x2 o3 x4 x5 σ → V p l e (rmD 3 mc ms) s m args below meth c (MQ below (va_Qi Q (gB G 1 σ0) (GA G)) args s mc ms (GA G)) G 1 σ0 mc ms 7 σ 0 0 [(some a0, 12), (o3, 4)] 31 [(0, va_rf (some a0)), (1, .int x1), (2, .int x2), (3, va_rf o3), (4, .int x4), (5, .int x5)] [] := by
  intro f
  induction f with
  | zero => intro a0 x1 x2 o3 x4 x5 σ hw; exact hw.elim
  | succ f ih =>
    intro a0 x1 x2 o3 x4 x5 σ hw
    unfold w_X11_piecesThatCame_31 at hw
    refine v_iload X 5 rfl (gD D_X11_piecesThatCame_0 17 rfl) ?_
    refine v_aload_n X 0 rfl (gD D_X11_piecesThatCame_0 18 rfl) rfl ?_
    refine v_getR X RX11 TX11 19 12 11 (by decide) rfl gin11 3 1103 RX11 (Or.inl rfl) 0 30 rfl rfl rfl (by decide) lk_fRX11_30 (gD D_X11_piecesThatCame_0 19 rfl) (fun o61 eo61 => ?_)
    replace hw := hw o61 eo61
    obtain ⟨a62, rfl, hw⟩ := hw
    refine v_callVi X (As := []) (rest := [.int x5]) (nA := 0) 0 0 0 0 (fun ht => c_Jx4a65c_size_8abf5 htr (ht.sub [0] rfl) hw) (Or.inl rfl) 0 (κ := 30) rfl (by decide) (rfl : gCl[13]? = some (RJx4a65c, TJx4a65c, 3)) lk_vRX11_145 (by decide +kernel) rfl rfl (by simp [rf_cat, ct_i]) (by decide) (by decide) rfl rfl (gD D_X11_piecesThatCame_0 20 rfl) (fun x63 s64 hq _ _ => ?_)
    replace hw := hq
    clear hq
    refine v_icmp_ge X 96 (gD D_X11_piecesThatCame_0 21 rfl) (by decide) (fun c65 => ?_) (fun c65 => ?_)
    · replace hw := hw.1 c65
      refine v_iload X 4 rfl (gD D_X11_piecesThatCame_0 47 rfl) ?_
      exact v_iret X hr hw (gD D_X11_piecesThatCame_0 48 rfl)
    · replace hw := hw.2 c65
      refine v_aload_n X 0 rfl (gD D_X11_piecesThatCame_0 22 rfl) rfl ?_
      refine v_getR X RX11 TX11 19 12 11 (by decide) rfl gin11 3 1103 RX11 (Or.inl rfl) 1 30 rfl rfl rfl (by decide) lk_fRX11_30 (gD D_X11_piecesThatCame_0 23 rfl) (fun o66 eo66 => ?_)
      replace hw := hw o66 eo66
      refine v_iload X 5 rfl (gD D_X11_piecesThatCame_0 24 rfl) ?_
      obtain ⟨a67, rfl, hw⟩ := hw
      refine v_callVu X (As := [.int x5]) (rest := []) (nA := 1) 0 0 0 0 (fun ht => c_Jx4a65c_get_915e3 htr (ht.sub [0] rfl) hw) (Or.inl rfl) 0 (κ := 30) rfl (by decide) (rfl : gCl[13]? = some (RJx4a65c, TJx4a65c, 3)) lk_vRX11_153 (by decide +kernel) rfl rfl (by decide) (by decide) (by decide) rfl rfl (gD D_X11_piecesThatCame_0 25 rfl) (fun o68 s69 hq _ _ => ?_)
      replace hw := hq
      clear hq
      obtain ⟨a70, rfl, hw⟩ := hw
      obtain ⟨h71, hw⟩ := hw
      refine v_cast X RX5 TX5 4 6 5 h71 (by decide) rfl lk_kRX11_148 (gD D_X11_piecesThatCame_0 26 rfl) ?_
      refine v_getR X RX5 TX5 4 6 5 (by decide) rfl gin5 1 501 RX5 (Or.inl rfl) 0 4 rfl rfl rfl (by decide) lk_fRX11_368 (gD D_X11_piecesThatCame_0 27 rfl) (fun o72 eo72 => ?_)
      replace hw := hw o72 eo72
      refine v_aload_n X 3 rfl (gD D_X11_piecesThatCame_0 28 rfl) rfl ?_
      refine v_acmp_ne X 66 (gD D_X11_piecesThatCame_0 29 rfl) (by decide) (fun c73 => ?_) (fun c73 => ?_)
      · replace hw := hw.1 c73
        refine v_iconst X 0 (gD D_X11_piecesThatCame_0 32 rfl) (by decide) ?_
        exact v_sub [4, 5] [0, 1, 2, 3, 4, 5] rfl rfl (t_X11_piecesThatCame_67 X hr hin htr ih a0 x1 x2 o3 x4 x5 0 s69 hw)
      · replace hw := hw.2 c73
        refine v_iconst X 1 (gD D_X11_piecesThatCame_0 30 rfl) (by decide) ?_
        refine v_goto X 67 (gD D_X11_piecesThatCame_0 31 rfl) (by decide) ?_
        exact v_sub [4, 5] [0, 1, 2, 3, 4, 5] rfl rfl (t_X11_piecesThatCame_67 X hr hin htr ih a0 x1 x2 o3 x4 x5 1 s69 hw)
set_option maxRecDepth 100000 in
set_option maxHeartbeats 4000000 in
theorem c_X11_piecesThatCame {l : Launch} {G : GX} (htr : l.stackTraces = false) {σ : St} {a0 : Nat} {x1 : Int32} {x2 : Int32} {Q : Int32 → St → Prop} (ht : tvOk σ [(some a0, 12)]) (hw : w_X11_piecesThatCame a0 x1 x2 σ Q) : MI l G 1 σ yX11_piecesThatCame cX11_piecesThatCame 7 (some .int) 3 0 0 [va_rf (some a0), .int x1, .int x2] Q := by
  unfold w_X11_piecesThatCame at hw
  refine m_start RX11 (by decide) htr ht (Nat.le_of_ble_eq_true rfl) rfl (lv := [(0, va_rf (some a0)), (1, .int x1), (2, .int x2)]) (d := 1) (fun p e s m args below meth c X hr hin => ?_)
  refine v_aload_n X 0 rfl (gD D_X11_piecesThatCame_0 0 rfl) rfl ?_
  refine v_iload_n X 1 rfl (gD D_X11_piecesThatCame_0 1 rfl) rfl ?_
  refine v_callVi X (As := [.int x1]) (rest := []) (nA := 1) 0 0 0 0 (fun ht => c_X11_isNotice htr (ht.sub [0] rfl) hw) (Or.inl rfl) 0 (κ := 12) rfl (by decide) (rfl : gCl[11]? = some (RX11, TX11, 19)) lk_vRX11_195 (by decide +kernel) rfl rfl (by decide) (by decide) (by decide) rfl rfl (gD D_X11_piecesThatCame_0 2 rfl) (fun x51 s52 hq _ _ => ?_)
  replace hw := hq
  clear hq
  refine v_if_ne X 10 (gD D_X11_piecesThatCame_0 3 rfl) (by decide) (fun c53 => ?_) (fun c53 => ?_)
  · replace hw := hw.1 c53
    refine v_aload_n X 0 rfl (gD D_X11_piecesThatCame_0 6 rfl) rfl ?_
    refine v_getR X RX11 TX11 19 12 11 (by decide) rfl gin11 5 1105 RX11 (Or.inl rfl) 0 30 rfl rfl rfl (by decide) lk_fRX11_37 (gD D_X11_piecesThatCame_0 7 rfl) (fun o54 eo54 => ?_)
    replace hw := hw o54 eo54
    refine v_iload_n X 1 rfl (gD D_X11_piecesThatCame_0 8 rfl) rfl ?_
    obtain ⟨a55, rfl, hw⟩ := hw
    refine v_callVu X (As := [.int x1]) (rest := []) (nA := 1) 0 0 0 0 (fun ht => c_Jx4a65c_get_915e3 htr (ht.sub [0] rfl) hw) (Or.inl rfl) 0 (κ := 30) rfl (by decide) (rfl : gCl[13]? = some (RJx4a65c, TJx4a65c, 3)) lk_vRX11_153 (by decide +kernel) rfl rfl (by decide) (by decide) (by decide) rfl rfl (gD D_X11_piecesThatCame_0 9 rfl) (fun o56 s57 hq _ _ => ?_)
    replace hw := hq
    clear hq
    obtain ⟨a58, rfl, hw⟩ := hw
    obtain ⟨h59, hw⟩ := hw
    refine v_cast X RX6 TX6 3 7 6 h59 (by decide) rfl lk_kRX11_190 (gD D_X11_piecesThatCame_0 10 rfl) ?_
    refine v_getR X RX6 TX6 3 7 6 (by decide) rfl gin6 0 600 RX6 (Or.inl rfl) 0 4 rfl rfl rfl (by decide) lk_fRX11_382 (gD D_X11_piecesThatCame_0 11 rfl) (fun o60 eo60 => ?_)
    replace hw := hw o60 eo60
    refine v_astore_n X [(3, va_rf o60), (0, va_rf (some a0)), (1, .int x1), (2, .int x2)] (gD D_X11_piecesThatCame_0 12 rfl) rfl (by decide) rfl ?_
    refine v_iconst X 0 (gD D_X11_piecesThatCame_0 13 rfl) (by decide) ?_
    refine v_istore X [(4, .int 0), (3, va_rf o60), (0, va_rf (some a0)), (1, .int x1), (2, .int x2)] (gD D_X11_piecesThatCame_0 14 rfl) (by decide) (by simp [List.filter_cons, rf_cat]) ?_
    refine v_iconst X 0 (gD D_X11_piecesThatCame_0 15 rfl) (by decide) ?_
    refine v_istore X [(5, .int 0), (4, .int 0), (3, va_rf o60), (0, va_rf (some a0)), (1, .int x1), (2, .int x2)] (gD D_X11_piecesThatCame_0 16 rfl) (by decide) rfl ?_
    obtain ⟨f80, hw⟩ := hw
    exact v_sub [3, 0] [3, 4, 5, 2, 1, 0] rfl rfl (t_X11_piecesThatCame_31 X hr hin htr  f80 a0 x1 x2 o60 0 0 s57 hw)
  · replace hw := hw.2 c53
    refine v_iconst X 0 (gD D_X11_piecesThatCame_0 4 rfl) (by decide) ?_
    exact v_iret X hr hw (gD D_X11_piecesThatCame_0 5 rfl)
set_option maxRecDepth 100000 in
set_option maxHeartbeats 4000000 in
theorem c_X11_slot {l : Launch} {G : GX} (htr : l.stackTraces = false) {k n : Nat} {σ : St} {a0 : Nat} {x1 : Int32} {x2 : Int32} {x3 : Int32} {Q : St → Prop} {Y : Nat → St → Prop} (ht : tvOk σ [(some a0, 12)]) (hw : w_X11_slot k n a0 x1 x2 x3 σ Q Y) : MVX l G 1 σ yX11_slot cX11_slot 4 3 k n [va_rf (some a0), .int x1, .int x2, .int x3] Q Y := by
  unfold w_X11_slot at hw
  refine m_startX RX11 (by decide) htr ht (Nat.le_of_ble_eq_true rfl) rfl (lv := [(0, va_rf (some a0)), (1, .int x1), (2, .int x2), (3, .int x3)]) (d := 1) (fun p e s m args below meth c X hr hin hex => ?_)
  refine v_iload_n X 1 rfl (gD D_X11_slot_0 0 rfl) rfl ?_
  refine v_callSi X (As := [.int x1]) (rest := []) (nA := 1) 0 0 k n (fun ht => c_X11_isSlot htr (ht.sub [] rfl) hw) (Or.inl rfl) lk_sRX11_79 (by decide +kernel) rfl rfl (by decide) (by decide) (by decide) rfl rfl (gD D_X11_slot_0 1 rfl) (fun x51 s52 hq _ _ => ?_)
  replace hw := hq
  clear hq
  refine v_if_ne X 15 (gD D_X11_slot_0 2 rfl) (by decide) (fun c53 => ?_) (fun c53 => ?_)
  · replace hw := hw.1 c53
    refine v_iload_n X 2 rfl (gD D_X11_slot_0 7 rfl) rfl ?_
    refine v_iconst X 0 (gD D_X11_slot_0 8 rfl) (by decide) ?_
    refine v_iconst X 2 (gD D_X11_slot_0 9 rfl) (by decide) ?_
    refine v_callSi X (As := [.int x2, .int 0, .int 2]) (rest := []) (nA := 3) 0 0 k n (fun ht => c_X11_isWithin htr (ht.sub [] rfl) hw) (Or.inl rfl) lk_sRX11_86 (by decide +kernel) rfl rfl (by decide) (by decide) (by decide) rfl rfl (gD D_X11_slot_0 10 rfl) (fun x54 s55 hq _ _ => ?_)
    replace hw := hq
    clear hq
    refine v_if_eq X 35 (gD D_X11_slot_0 11 rfl) (by decide) (fun c56 => ?_) (fun c56 => ?_)
    · replace hw := hw.1 c56
      exact v_throw X hex 2 (by decide +kernel) lk_xRX11_90 lk_xi_2 lk_xaRX11_92 lk_xgRX11_90_92 (gD D_X11_slot_0 17 rfl) (gD D_X11_slot_0 18 rfl) (gD D_X11_slot_0 19 rfl) (gD D_X11_slot_0 20 rfl) (by decide) hw
    · replace hw := hw.2 c56
      refine v_iload_n X 3 rfl (gD D_X11_slot_0 12 rfl) rfl ?_
      refine v_iconst X 1 (gD D_X11_slot_0 13 rfl) (by decide) ?_
      refine v_sipush X 200 (gD D_X11_slot_0 14 rfl) (by decide) ?_
      refine v_callSi X (As := [.int x3, .int 1, .int 200]) (rest := []) (nA := 3) 0 0 k n (fun ht => c_X11_isWithin htr (ht.sub [] rfl) hw) (Or.inl rfl) lk_sRX11_86 (by decide +kernel) rfl rfl (by decide) (by decide) (by decide) rfl rfl (gD D_X11_slot_0 15 rfl) (fun x57 s58 hq _ _ => ?_)
      replace hw := hq
      clear hq
      refine v_if_ne X 43 (gD D_X11_slot_0 16 rfl) (by decide) (fun c59 => ?_) (fun c59 => ?_)
      · replace hw := hw.1 c59
        refine v_aload_n X 0 rfl (gD D_X11_slot_0 21 rfl) rfl ?_
        refine v_getR X RX11 TX11 19 12 11 (by decide) rfl gin11 0 1100 RX11 (Or.inl rfl) 0 24 rfl rfl rfl (by decide) lk_fRX11_11 (gD D_X11_slot_0 22 rfl) (fun o60 eo60 => ?_)
        replace hw := hw o60 eo60
        refine v_iload_n X 1 rfl (gD D_X11_slot_0 23 rfl) rfl ?_
        obtain ⟨a61, rfl, hw⟩ := hw
        obtain ⟨h62, hw⟩ := hw
        refine v_aald X 0 10 rfl (by decide) h62 (gD D_X11_slot_0 24 rfl) (fun o63 eo63 => ?_)
        replace hw := hw o63 eo63
        obtain ⟨a64, rfl, hw⟩ := hw
        refine v_getR X RX9 TX9 5 10 9 (by decide) rfl gin9 2 902 RX9 (Or.inl rfl) 0 4 rfl rfl rfl (by decide) lk_fRX11_93 (gD D_X11_slot_0 25 rfl) (fun o65 eo65 => ?_)
        replace hw := hw o65 eo65
        refine v_ifnonnull X 63 (gD D_X11_slot_0 26 rfl) (by decide) (fun a67 c66 => ?_) (fun c66 => ?_)
        · replace hw := hw.2 a67 c66
          subst c66
          exact v_throw X hex 3 (by decide +kernel) lk_xRX11_100 lk_xi_3 lk_xaRX11_102 lk_xgRX11_100_102 (gD D_X11_slot_0 31 rfl) (gD D_X11_slot_0 32 rfl) (gD D_X11_slot_0 33 rfl) (gD D_X11_slot_0 34 rfl) (by decide) hw
        · replace hw := hw.1 c66
          subst c66
          refine v_aload_n X 0 rfl (gD D_X11_slot_0 27 rfl) rfl ?_
          refine v_iload_n X 1 rfl (gD D_X11_slot_0 28 rfl) rfl ?_
          refine v_callVi X (As := [.int x1]) (rest := []) (nA := 1) 0 0 k n (fun ht => c_X11_isUsed htr (ht.sub [3] rfl) hw) (Or.inl rfl) 3 (κ := 12) rfl (by decide) (rfl : gCl[11]? = some (RX11, TX11, 19)) lk_vRX11_97 (by decide +kernel) rfl rfl (by decide) (by decide) (by decide) rfl rfl (gD D_X11_slot_0 29 rfl) (fun x68 s69 hq _ _ => ?_)
          replace hw := hq
          clear hq
          refine v_if_eq X 71 (gD D_X11_slot_0 30 rfl) (by decide) (fun c70 => ?_) (fun c70 => ?_)
          · replace hw := hw.1 c70
            refine v_aload_n X 0 rfl (gD D_X11_slot_0 35 rfl) rfl ?_
            refine v_getR X RX11 TX11 19 12 11 (by decide) rfl gin11 0 1100 RX11 (Or.inl rfl) 3 24 rfl rfl rfl (by decide) lk_fRX11_11 (gD D_X11_slot_0 36 rfl) (fun o71 eo71 => ?_)
            replace hw := hw o71 eo71
            refine v_iload_n X 1 rfl (gD D_X11_slot_0 37 rfl) rfl ?_
            obtain ⟨a72, rfl, hw⟩ := hw
            obtain ⟨h73, hw⟩ := hw
            refine v_aald X 0 10 rfl (by decide) h73 (gD D_X11_slot_0 38 rfl) (fun o74 eo74 => ?_)
            replace hw := hw o74 eo74
            refine v_iload_n X 2 rfl (gD D_X11_slot_0 39 rfl) rfl ?_
            obtain ⟨a75, rfl, hw⟩ := hw
            refine v_putI X RX9 TX9 5 10 9 (by decide) rfl gin9 0 900 tyX9 tyX9_ok nmX9 RX9 (Or.inl rfl) 0 rfl .int (int_fit _) rfl (by decide) (Or.inl rfl) lk_fRX11_103 rfl rfl (gD D_X11_slot_0 40 rfl) (fun s76 es76 => ?_)
            replace hw := hw s76 es76
            refine v_aload_n X 0 rfl (gD D_X11_slot_0 41 rfl) rfl ?_
            refine v_getR X RX11 TX11 19 12 11 (by decide) rfl gin11 0 1100 RX11 (Or.inl rfl) 5 24 rfl rfl rfl (by decide) lk_fRX11_11 (gD D_X11_slot_0 42 rfl) (fun o77 eo77 => ?_)
            replace hw := hw o77 eo77
            refine v_iload_n X 1 rfl (gD D_X11_slot_0 43 rfl) rfl ?_
            obtain ⟨a78, rfl, hw⟩ := hw
            obtain ⟨h79, hw⟩ := hw
            refine v_aald X 0 10 rfl (by decide) h79 (gD D_X11_slot_0 44 rfl) (fun o80 eo80 => ?_)
            replace hw := hw o80 eo80
            refine v_iload_n X 3 rfl (gD D_X11_slot_0 45 rfl) rfl ?_
            obtain ⟨a81, rfl, hw⟩ := hw
            refine v_putI X RX9 TX9 5 10 9 (by decide) rfl gin9 1 901 tyX9 tyX9_ok nmX9 RX9 (Or.inl rfl) 0 rfl .int (int_fit _) rfl (by decide) (Or.inl rfl) lk_fRX11_107 rfl rfl (gD D_X11_slot_0 46 rfl) (fun s82 es82 => ?_)
            replace hw := hw s82 es82
            exact v_X (v_vret X hr hw (gD D_X11_slot_0 47 rfl))
          · replace hw := hw.2 c70
            exact v_throw X hex 3 (by decide +kernel) lk_xRX11_100 lk_xi_3 lk_xaRX11_102 lk_xgRX11_100_102 (gD D_X11_slot_0 31 rfl) (gD D_X11_slot_0 32 rfl) (gD D_X11_slot_0 33 rfl) (gD D_X11_slot_0 34 rfl) (by decide) hw
      · replace hw := hw.2 c59
        exact v_throw X hex 2 (by decide +kernel) lk_xRX11_90 lk_xi_2 lk_xaRX11_92 lk_xgRX11_90_92 (gD D_X11_slot_0 17 rfl) (gD D_X11_slot_0 18 rfl) (gD D_X11_slot_0 19 rfl) (gD D_X11_slot_0 20 rfl) (by decide) hw
  · replace hw := hw.2 c53
    exact v_throw X hex 1 (by decide +kernel) lk_xRX11_83 lk_xi_1 lk_xaRX11_85 lk_xgRX11_83_85 (gD D_X11_slot_0 3 rfl) (gD D_X11_slot_0 4 rfl) (gD D_X11_slot_0 5 rfl) (gD D_X11_slot_0 6 rfl) (by decide) hw
set_option maxRecDepth 100000 in
set_option maxHeartbeats 4000000 in
theorem c_X11_taskAt {l : Launch} {G : GX} (htr : l.stackTraces = false) {k n : Nat} {σ : St} {a0 : Nat} {x1 : Int32} {Q : Int32 → St → Prop} {Y : Nat → St → Prop} (ht : tvOk σ [(some a0, 12)]) (hw : w_X11_taskAt k n a0 x1 σ Q Y) : MIX l G 1 σ yX11_taskAt cX11_taskAt 3 (some .int) 3 k n [va_rf (some a0), .int x1] Q Y := by
  unfold w_X11_taskAt at hw
  refine m_startX RX11 (by decide) htr ht (Nat.le_of_ble_eq_true rfl) rfl (lv := [(0, va_rf (some a0)), (1, .int x1)]) (d := 1) (fun p e s m args below meth c X hr hin hex => ?_)
  refine v_aload_n X 0 rfl (gD D_X11_taskAt_0 0 rfl) rfl ?_
  refine v_iload_n X 1 rfl (gD D_X11_taskAt_0 1 rfl) rfl ?_
  refine v_callVi X (As := [.int x1]) (rest := []) (nA := 1) 0 0 k n (fun ht => c_X11_isTask htr (ht.sub [0] rfl) hw) (Or.inl rfl) 0 (κ := 12) rfl (by decide) (rfl : gCl[11]? = some (RX11, TX11, 19)) lk_vRX11_287 (by decide +kernel) rfl rfl (by decide) (by decide) (by decide) rfl rfl (gD D_X11_taskAt_0 2 rfl) (fun x51 s52 hq _ _ => ?_)
  replace hw := hq
  clear hq
  refine v_if_ne X 16 (gD D_X11_taskAt_0 3 rfl) (by decide) (fun c53 => ?_) (fun c53 => ?_)
  · replace hw := hw.1 c53
    refine v_aload_n X 0 rfl (gD D_X11_taskAt_0 8 rfl) rfl ?_
    refine v_getR X RX11 TX11 19 12 11 (by decide) rfl gin11 8 1108 RX11 (Or.inl rfl) 0 30 rfl rfl rfl (by decide) lk_fRX11_46 (gD D_X11_taskAt_0 9 rfl) (fun o54 eo54 => ?_)
    replace hw := hw o54 eo54
    refine v_iload_n X 1 rfl (gD D_X11_taskAt_0 10 rfl) rfl ?_
    obtain ⟨a55, rfl, hw⟩ := hw
    refine v_callVu X (As := [.int x1]) (rest := []) (nA := 1) 0 0 k n (fun ht => c_Jx4a65c_get_915e3 htr (ht.sub [0] rfl) hw) (Or.inl rfl) 0 (κ := 30) rfl (by decide) (rfl : gCl[13]? = some (RJx4a65c, TJx4a65c, 3)) lk_vRX11_153 (by decide +kernel) rfl rfl (by decide) (by decide) (by decide) rfl rfl (gD D_X11_taskAt_0 11 rfl) (fun o56 s57 hq _ _ => ?_)
    replace hw := hq
    clear hq
    obtain ⟨a58, rfl, hw⟩ := hw
    obtain ⟨h59, hw⟩ := hw
    refine v_cast X RX10 TX10 7 11 10 h59 (by decide) rfl lk_kRX11_290 (gD D_X11_taskAt_0 12 rfl) ?_
    refine v_astore_n X [(2, va_rf (some a58)), (0, va_rf (some a0)), (1, .int x1)] (gD D_X11_taskAt_0 13 rfl) rfl (by decide) rfl ?_
    refine v_sipush X 1000 (gD D_X11_taskAt_0 14 rfl) (by decide) ?_
    refine v_aload_n X 0 rfl (gD D_X11_taskAt_0 15 rfl) rfl ?_
    refine v_getI X RX10 TX10 7 11 10 (by decide) rfl gin10 1 1001 RX10 (Or.inl rfl) 0 rfl rfl (by decide) lk_fRX11_319 (gD D_X11_taskAt_0 16 rfl) ?_
    refine v_imul X (gD D_X11_taskAt_0 17 rfl) ?_
    refine v_bipush X 100 (gD D_X11_taskAt_0 18 rfl) (by decide) ?_
    refine v_aload_n X 0 rfl (gD D_X11_taskAt_0 19 rfl) rfl ?_
    refine v_getI X RX10 TX10 7 11 10 (by decide) rfl gin10 5 1005 RX10 (Or.inl rfl) 0 rfl rfl (by decide) lk_fRX11_292 (gD D_X11_taskAt_0 20 rfl) ?_
    refine v_imul X (gD D_X11_taskAt_0 21 rfl) ?_
    refine v_iadd X (gD D_X11_taskAt_0 22 rfl) ?_
    refine v_aload_n X 0 rfl (gD D_X11_taskAt_0 23 rfl) rfl ?_
    refine v_getI X RX10 TX10 7 11 10 (by decide) rfl gin10 4 1004 RX10 (Or.inl rfl) 0 rfl rfl (by decide) lk_fRX11_322 (gD D_X11_taskAt_0 24 rfl) ?_
    refine v_iadd X (gD D_X11_taskAt_0 25 rfl) ?_
    exact v_X (v_iret X hr hw (gD D_X11_taskAt_0 26 rfl))
  · replace hw := hw.2 c53
    exact v_throw X hex 1 (by decide +kernel) lk_xRX11_83 lk_xi_1 lk_xaRX11_85 lk_xgRX11_83_85 (gD D_X11_taskAt_0 4 rfl) (gD D_X11_taskAt_0 5 rfl) (gD D_X11_taskAt_0 6 rfl) (gD D_X11_taskAt_0 7 rfl) (by decide) hw
set_option maxRecDepth 100000 in
set_option maxHeartbeats 4000000 in
theorem c_X7_init {l : Launch} {G : GX} (htr : l.stackTraces = false) {k n : Nat} {σ : St} {a0 : Nat} {x1 : Int32} {x2 : Int32} {x3 : Int32} {x4 : Int32} {Q : St → Prop} (ht : tvOk σ [(some a0, 8)]) (hw : w_X7_init k n a0 x1 x2 x3 x4 σ Q) : MV l G 1 σ yX7_init cX7_init 5 3 k n [va_rf (some a0), .int x1, .int x2, .int x3, .int x4] Q := by
  unfold w_X7_init at hw
  refine m_start RX7 (by decide) htr ht (Nat.le_of_ble_eq_true rfl) rfl (lv := [(0, va_rf (some a0)), (1, .int x1), (2, .int x2), (3, .int x3), (4, .int x4)]) (d := 1) (fun p e s m args below meth c X hr hin => ?_)
  refine v_aload_n X 0 rfl (gD D_X7_init_0 0 rfl) rfl ?_
  refine v_objInit X lk_mRX7_1 lk_i_objinit lk_c_objinit (by decide) (gD D_X7_init_0 1 rfl) ?_
  refine v_aload_n X 0 rfl (gD D_X7_init_0 2 rfl) rfl ?_
  obtain ⟨k51, n52, h53, h54, hw⟩ := hw
  refine v_new X RJx4a65c TJx4a65c 3 30 13 (by decide) rfl gin13 tyJx4a65c tyJx4a65c_ok lk_kRX7_7 lk_tJx4a65c lk_n_RJx4a65c dfl_Jx4a65c k51 n52 h53 h54 (gD D_X7_init_0 3 rfl) (fun a55 s56 ha55 es56 => ?_)
  replace hw := hw a55 s56 ha55 es56
  refine v_dup X (gD D_X7_init_0 4 rfl) (rf_cat _) ?_
  refine v_callIv X (As := []) (rest := [va_rf (some a55), va_rf (some a0)]) (nA := 0) 0 0 k51 n52 (fun ht => c_Jx4a65c_init_da8c8 htr (ht.sub [0] rfl) hw) (Or.inl rfl) lk_c_Jx4a65c_init_da8c8 lk_n_RJx4a65c lk_mRX7_9 lk_i_Jx4a65c_init_da8c8 rfl (by decide +kernel) rfl rfl (by simp [rf_cat, ct_i]) (by decide) (by decide) rfl rfl (gD D_X7_init_0 5 rfl) (fun s58 hq _ _ => ?_)
  replace hw := hq
  clear hq
  refine v_putRF X RX7 TX7 7 8 7 (by decide) rfl gin7 4 704 tyX7 tyX7_ok nmX7 RX7 (Or.inl rfl) 1 rfl (fun b hb => ⟨0, by rw [← hb]; rfl⟩) rfl (by decide) (Or.inl rfl) lk_fRX7_10 rfl hin rfl rfl rfl (gD D_X7_init_0 6 rfl) (fun s59 es59 => ?_)
  replace hw := hw s59 es59
  refine v_aload_n X 0 rfl (gD D_X7_init_0 7 rfl) rfl ?_
  refine v_iload_n X 1 rfl (gD D_X7_init_0 8 rfl) rfl ?_
  refine v_putIF X RX7 TX7 7 8 7 (by decide) rfl gin7 0 700 tyX7 tyX7_ok nmX7 RX7 (Or.inl rfl) 1 rfl .int (int_fit _) rfl (by decide) (Or.inl rfl) lk_fRX7_16 rfl hin rfl rfl (gD D_X7_init_0 9 rfl) (fun s60 es60 => ?_)
  replace hw := hw s60 es60
  refine v_aload_n X 0 rfl (gD D_X7_init_0 10 rfl) rfl ?_
  refine v_iload_n X 2 rfl (gD D_X7_init_0 11 rfl) rfl ?_
  refine v_putIF X RX7 TX7 7 8 7 (by decide) rfl gin7 1 701 tyX7 tyX7_ok nmX7 RX7 (Or.inl rfl) 1 rfl .int (int_fit _) rfl (by decide) (Or.inl rfl) lk_fRX7_20 rfl hin rfl rfl (gD D_X7_init_0 12 rfl) (fun s61 es61 => ?_)
  replace hw := hw s61 es61
  refine v_aload_n X 0 rfl (gD D_X7_init_0 13 rfl) rfl ?_
  refine v_iload_n X 3 rfl (gD D_X7_init_0 14 rfl) rfl ?_
  obtain ⟨h63, hw⟩ := hw
  refine v_putIF X RX7 TX7 7 8 7 (by decide) rfl gin7 2 702 tyX7 tyX7_ok nmX7 RX7 (Or.inl rfl) 1 rfl .boolean (bool_fit h63) rfl (by decide) (Or.inl rfl) lk_fRX7_23 rfl hin rfl rfl (gD D_X7_init_0 15 rfl) (fun s62 es62 => ?_)
  replace hw := hw s62 es62
  refine v_aload_n X 0 rfl (gD D_X7_init_0 16 rfl) rfl ?_
  refine v_iload X 4 rfl (gD D_X7_init_0 17 rfl) ?_
  refine v_putIF X RX7 TX7 7 8 7 (by decide) rfl gin7 3 703 tyX7 tyX7_ok nmX7 RX7 (Or.inl rfl) 1 rfl .int (int_fit _) rfl (by decide) (Or.inl rfl) lk_fRX7_27 rfl hin rfl rfl (gD D_X7_init_0 18 rfl) (fun s64 es64 => ?_)
  replace hw := hw s64 es64
  exact v_vret X hr hw (gD D_X7_init_0 19 rfl)
set_option maxRecDepth 100000 in
set_option maxHeartbeats 4000000 in
theorem t_X8_firstTask_40 {p : Program} {l : Launch} {e : Env} {s : State} {m : MethodId} {args : Array Value} {below : List Frame} {meth : Method} {c : Code} {G : GX} {σ0 : St} {mc ms : Nat} {Q : Option Nat → St → Prop} (X : VC p l (rmD 3 mc ms) s m args meth c G 3 mc ms 1 RX8 cX8_firstTask) (hr : meth.sig.returnType = (some (.object RX10))) (hin : meth.name = yX8_firstTask.name) (htr : l.stackTraces = false) : ∀ (a0 : Nat) (σ : St), w_X8_firstTask_40 Q  a0 σ → V p l e (rmD 3 mc ms) s m args below meth c (MQ below (va_Qq (fun r τ => Q r τ ∧ rOk 11 r τ) (gB G 1 σ0) (GA G)) args s mc ms (GA G)) G 1 σ0 mc ms 1 σ 0 0 [(some a0, 9)] 40 [(0, va_rf (some a0))] [] := by
  intro a0 σ hw
  unfold w_X8_firstTask_40 at hw
  refine v_aload_n X 0 rfl (gD D_X8_firstTask_0 18 rfl) rfl ?_
  refine v_getR X RX8 TX8 4 9 8 (by decide) rfl gin8 0 800 RX8 (Or.inl rfl) 0 30 rfl rfl rfl (by decide) lk_fRX8_12 (gD D_X8_firstTask_0 19 rfl) (fun o56 eo56 => ?_)
  replace hw := hw o56 eo56
  obtain ⟨a57, rfl, hw⟩ := hw
  refine v_callVi X (As := []) (rest := []) (nA := 0) 0 0 0 0 (fun ht => c_Jx4a65c_isEmpty_aae02 htr (ht.sub [0] rfl) hw) (Or.inl rfl) 0 (κ := 30) rfl (by decide) (rfl : gCl[13]? = some (RJx4a65c, TJx4a65c, 3)) lk_vRX8_34 (by decide +kernel) rfl rfl (by decide) (by decide) (by decide) rfl rfl (gD D_X8_firstTask_0 20 rfl) (fun x58 s59 hq _ _ => ?_)
  replace hw := hq
  clear hq
  refine v_if_eq X 54 (gD D_X8_firstTask_0 21 rfl) (by decide) (fun c60 => ?_) (fun c60 => ?_)
  · replace hw := hw.1 c60
    refine v_aload_n X 0 rfl (gD D_X8_firstTask_0 24 rfl) rfl ?_
    refine v_getR X RX8 TX8 4 9 8 (by decide) rfl gin8 0 800 RX8 (Or.inl rfl) 1 30 rfl rfl rfl (by decide) lk_fRX8_12 (gD D_X8_firstTask_0 25 rfl) (fun o61 eo61 => ?_)
    replace hw := hw o61 eo61
    refine v_iconst X 0 (gD D_X8_firstTask_0 26 rfl) (by decide) ?_
    obtain ⟨a62, rfl, hw⟩ := hw
    refine v_callVu X (As := [.int 0]) (rest := []) (nA := 1) 0 0 0 0 (fun ht => c_Jx4a65c_get_915e3 htr (ht.sub [0] rfl) hw) (Or.inl rfl) 0 (κ := 30) rfl (by decide) (rfl : gCl[13]? = some (RJx4a65c, TJx4a65c, 3)) lk_vRX8_38 (by decide +kernel) rfl rfl (by decide) (by decide) (by decide) rfl rfl (gD D_X8_firstTask_0 27 rfl) (fun o63 s64 hq _ _ => ?_)
    replace hw := hq
    clear hq
    obtain ⟨a65, rfl, hw⟩ := hw
    obtain ⟨h66, hw⟩ := hw
    refine v_cast X RX10 TX10 7 11 10 h66 (by decide) rfl lk_kRX8_26 (gD D_X8_firstTask_0 28 rfl) ?_
    exact v_aret X hr (Or.inl ⟨_, rfl⟩) (Or.inr (Or.inr ⟨0, rfl⟩)) hw (gD D_X8_firstTask_0 29 rfl)
  · replace hw := hw.2 c60
    refine v_null X (gD D_X8_firstTask_0 22 rfl) ?_
    refine v_goto X 65 (gD D_X8_firstTask_0 23 rfl) (by decide) ?_
    exact v_aret X hr (Or.inl ⟨_, rfl⟩) (Or.inr (Or.inl rfl)) hw (gD D_X8_firstTask_0 29 rfl)
set_option maxRecDepth 100000 in
set_option maxHeartbeats 4000000 in
theorem t_X8_firstTask_0 {p : Program} {l : Launch} {e : Env} {s : State} {m : MethodId} {args : Array Value} {below : List Frame} {meth : Method} {c : Code} {G : GX} {σ0 : St} {mc ms : Nat} {Q : Option Nat → St → Prop} (X : VC p l (rmD 3 mc ms) s m args meth c G 3 mc ms 1 RX8 cX8_firstTask) (hr : meth.sig.returnType = (some (.object RX10))) (hin : meth.name = yX8_firstTask.name) (htr : l.stackTraces = false) : ∀ (f : Nat) (a0 : Nat) (σ : St), w_X8_firstTask_0 Q  f a0 σ → V p l e (rmD 3 mc ms) s m args below meth c (MQ below (va_Qq (fun r τ => Q r τ ∧ rOk 11 r τ) (gB G 1 σ0) (GA G)) args s mc ms (GA G)) G 1 σ0 mc ms 1 σ 0 0 [(some a0, 9)] 0 [(0, va_rf (some a0))] [] := by
  intro f
  induction f with
  | zero => intro a0 σ hw; exact hw.elim
  | succ f ih =>
    intro a0 σ hw
    unfold w_X8_firstTask_0 at hw
    refine v_aload_n X 0 rfl (gD D_X8_firstTask_0 0 rfl) rfl ?_
    refine v_getR X RX8 TX8 4 9 8 (by decide) rfl gin8 0 800 RX8 (Or.inl rfl) 0 30 rfl rfl rfl (by decide) lk_fRX8_12 (gD D_X8_firstTask_0 1 rfl) (fun o51 eo51 => ?_)
    replace hw := hw o51 eo51
    obtain ⟨a52, rfl, hw⟩ := hw
    refine v_callVi X (As := []) (rest := []) (nA := 0) 0 0 0 0 (fun ht => c_Jx4a65c_isEmpty_aae02 htr (ht.sub [0] rfl) hw) (Or.inl rfl) 0 (κ := 30) rfl (by decide) (rfl : gCl[13]? = some (RJx4a65c, TJx4a65c, 3)) lk_vRX8_34 (by decide +kernel) rfl rfl (by decide) (by decide) (by decide) rfl rfl (gD D_X8_firstTask_0 2 rfl) (fun x53 s54 hq _ _ => ?_)
    replace hw := hq
    clear hq
    refine v_if_ne X 40 (gD D_X8_firstTask_0 3 rfl) (by decide) (fun c55 => ?_) (fun c55 => ?_)
    · replace hw := hw.1 c55
      exact v_sub [1] [0] rfl rfl (t_X8_firstTask_40 X hr hin htr  a0 s54 hw)
    · replace hw := hw.2 c55
      refine v_aload_n X 0 rfl (gD D_X8_firstTask_0 4 rfl) rfl ?_
      refine v_getR X RX8 TX8 4 9 8 (by decide) rfl gin8 0 800 RX8 (Or.inl rfl) 1 30 rfl rfl rfl (by decide) lk_fRX8_12 (gD D_X8_firstTask_0 5 rfl) (fun o67 eo67 => ?_)
      replace hw := hw o67 eo67
      refine v_iconst X 0 (gD D_X8_firstTask_0 6 rfl) (by decide) ?_
      obtain ⟨a68, rfl, hw⟩ := hw
      refine v_callVu X (As := [.int 0]) (rest := []) (nA := 1) 0 0 0 0 (fun ht => c_Jx4a65c_get_915e3 htr (ht.sub [0] rfl) hw) (Or.inl rfl) 0 (κ := 30) rfl (by decide) (rfl : gCl[13]? = some (RJx4a65c, TJx4a65c, 3)) lk_vRX8_38 (by decide +kernel) rfl rfl (by decide) (by decide) (by decide) rfl rfl (gD D_X8_firstTask_0 7 rfl) (fun o69 s70 hq _ _ => ?_)
      replace hw := hq
      clear hq
      obtain ⟨a71, rfl, hw⟩ := hw
      obtain ⟨h72, hw⟩ := hw
      refine v_cast X RX10 TX10 7 11 10 h72 (by decide) rfl lk_kRX8_26 (gD D_X8_firstTask_0 8 rfl) ?_
      refine v_getI X RX10 TX10 7 11 10 (by decide) rfl gin10 5 1005 RX10 (Or.inl rfl) 0 rfl rfl (by decide) lk_fRX8_25 (gD D_X8_firstTask_0 9 rfl) ?_
      refine v_iconst X 1 (gD D_X8_firstTask_0 10 rfl) (by decide) ?_
      refine v_icmp_eq X 40 (gD D_X8_firstTask_0 11 rfl) (by decide) (fun c73 => ?_) (fun c73 => ?_)
      · replace hw := hw.1 c73
        exact v_sub [3] [0] rfl rfl (t_X8_firstTask_40 X hr hin htr  a0 s70 hw)
      · replace hw := hw.2 c73
        refine v_aload_n X 0 rfl (gD D_X8_firstTask_0 12 rfl) rfl ?_
        refine v_getR X RX8 TX8 4 9 8 (by decide) rfl gin8 0 800 RX8 (Or.inl rfl) 3 30 rfl rfl rfl (by decide) lk_fRX8_12 (gD D_X8_firstTask_0 13 rfl) (fun o74 eo74 => ?_)
        replace hw := hw o74 eo74
        refine v_iconst X 0 (gD D_X8_firstTask_0 14 rfl) (by decide) ?_
        obtain ⟨a75, rfl, hw⟩ := hw
        refine v_callVu X (As := [.int 0]) (rest := []) (nA := 1) 0 0 0 0 (fun ht => c_Jx4a65c_remove_915e3 htr (ht.sub [0] rfl) hw) (Or.inl rfl) 0 (κ := 30) rfl (by decide) (rfl : gCl[13]? = some (RJx4a65c, TJx4a65c, 3)) lk_vRX8_42 (by decide +kernel) rfl rfl (by decide) (by decide) (by decide) rfl rfl (gD D_X8_firstTask_0 15 rfl) (fun o76 s77 hq _ _ => ?_)
        replace hw := hq
        clear hq
        refine v_pop X (gD D_X8_firstTask_0 16 rfl) (rf_cat _) ?_
        refine v_goto X 0 (gD D_X8_firstTask_0 17 rfl) (by decide) ?_
        exact v_sub [4] [0] rfl rfl (ih a0 s77 hw)
set_option maxRecDepth 100000 in
set_option maxHeartbeats 4000000 in
theorem c_X8_firstTask {l : Launch} {G : GX} (htr : l.stackTraces = false) {σ : St} {a0 : Nat} {Q : Option Nat → St → Prop} (ht : tvOk σ [(some a0, 9)]) (hw : w_X8_firstTask a0 σ Q) : MR l G 1 σ yX8_firstTask cX8_firstTask 1 (some (.object RX10)) 3 0 0 [va_rf (some a0)] 11 Q := by
  unfold w_X8_firstTask at hw
  refine m_start RX8 (by decide) htr ht (Nat.le_of_ble_eq_true rfl) rfl (lv := [(0, va_rf (some a0))]) (d := 1) (fun p e s m args below meth c X hr hin => ?_)
  obtain ⟨f78, hw⟩ := hw
  exact v_sub [0] [0] rfl rfl (t_X8_firstTask_0 X hr hin htr  f78 a0 σ hw)
set_option maxRecDepth 100000 in
set_option maxHeartbeats 4000000 in
theorem c_X8_init {l : Launch} {G : GX} (htr : l.stackTraces = false) {k n : Nat} {σ : St} {a0 : Nat} {Q : St → Prop} (ht : tvOk σ [(some a0, 9)]) (hw : w_X8_init k n a0 σ Q) : MV l G 1 σ yX8_init cX8_init 1 3 k n [va_rf (some a0)] Q := by
  unfold w_X8_init at hw
  refine m_start RX8 (by decide) htr ht (Nat.le_of_ble_eq_true rfl) rfl (lv := [(0, va_rf (some a0))]) (d := 1) (fun p e s m args below meth c X hr hin => ?_)
  refine v_aload_n X 0 rfl (gD D_X8_init_0 0 rfl) rfl ?_
  refine v_objInit X lk_mRX8_3 lk_i_objinit lk_c_objinit (by decide) (gD D_X8_init_0 1 rfl) ?_
  refine v_aload_n X 0 rfl (gD D_X8_init_0 2 rfl) rfl ?_
  obtain ⟨k51, n52, h53, h54, hw⟩ := hw
  refine v_new X RJx4a65c TJx4a65c 3 30 13 (by decide) rfl gin13 tyJx4a65c tyJx4a65c_ok lk_kRX8_9 lk_tJx4a65c lk_n_RJx4a65c dfl_Jx4a65c k51 n52 h53 h54 (gD D_X8_init_0 3 rfl) (fun a55 s56 ha55 es56 => ?_)
  replace hw := hw a55 s56 ha55 es56
  refine v_dup X (gD D_X8_init_0 4 rfl) (rf_cat _) ?_
  refine v_callIv X (As := []) (rest := [va_rf (some a55), va_rf (some a0)]) (nA := 0) 0 0 k51 n52 (fun ht => c_Jx4a65c_init_da8c8 htr (ht.sub [0] rfl) hw) (Or.inl rfl) lk_c_Jx4a65c_init_da8c8 lk_n_RJx4a65c lk_mRX8_11 lk_i_Jx4a65c_init_da8c8 rfl (by decide +kernel) rfl rfl (by simp [rf_cat, ct_i]) (by decide) (by decide) rfl rfl (gD D_X8_init_0 5 rfl) (fun s58 hq _ _ => ?_)
  replace hw := hq
  clear hq
  refine v_putRF X RX8 TX8 4 9 8 (by decide) rfl gin8 0 800 tyX8 tyX8_ok nmX8 RX8 (Or.inl rfl) 1 rfl (fun b hb => ⟨0, by rw [← hb]; rfl⟩) rfl (by decide) (Or.inl rfl) lk_fRX8_12 rfl hin rfl rfl rfl (gD D_X8_init_0 6 rfl) (fun s59 es59 => ?_)
  replace hw := hw s59 es59
  refine v_aload_n X 0 rfl (gD D_X8_init_0 7 rfl) rfl ?_
  refine v_iconst X (-1) (gD D_X8_init_0 8 rfl) (by decide) ?_
  refine v_putI X RX8 TX8 4 9 8 (by decide) rfl gin8 1 801 tyX8 tyX8_ok nmX8 RX8 (Or.inl rfl) 1 rfl .int (int_fit _) rfl (by decide) (Or.inl rfl) lk_fRX8_18 rfl rfl (gD D_X8_init_0 9 rfl) (fun s60 es60 => ?_)
  replace hw := hw s60 es60
  refine v_aload_n X 0 rfl (gD D_X8_init_0 10 rfl) rfl ?_
  refine v_iconst X (-1) (gD D_X8_init_0 11 rfl) (by decide) ?_
  refine v_putI X RX8 TX8 4 9 8 (by decide) rfl gin8 3 803 tyX8 tyX8_ok nmX8 RX8 (Or.inl rfl) 1 rfl .int (int_fit _) rfl (by decide) (Or.inl rfl) lk_fRX8_22 rfl rfl (gD D_X8_init_0 12 rfl) (fun s61 es61 => ?_)
  replace hw := hw s61 es61
  exact v_vret X hr hw (gD D_X8_init_0 13 rfl)
set_option maxRecDepth 100000 in
set_option maxHeartbeats 4000000 in
theorem t_X8_tasksInRow_4 {p : Program} {l : Launch} {e : Env} {s : State} {m : MethodId} {args : Array Value} {below : List Frame} {meth : Method} {c : Code} {G : GX} {σ0 : St} {mc ms : Nat} {Q : Int32 → St → Prop} (X : VC p l (rmD 3 mc ms) s m args meth c G 3 mc ms 3 RX8 cX8_tasksInRow) (hr : meth.sig.returnType = (some .int)) (hin : meth.name = yX8_tasksInRow.name) (htr : l.stackTraces = false) : ∀ (f : Nat) (a0 : Nat) (x1 : Int32) (x2 : Int32) (σ : St), w_X8_tasksInRow_4 Q  f a0 x1 x2 σ → V p l e (rmD 3 mc ms) s m args below meth c (MQ below (va_Qi Q (gB G 1 σ0) (GA G)) args s mc ms (GA G)) G 1 σ0 mc ms 3 σ 0 0 [(some a0, 9)] 4 [(0, va_rf (some a0)), (1, .int x1), (2, .int x2)] [] := by
  intro f
  induction f with
  | zero => intro a0 x1 x2 σ hw; exact hw.elim
  | succ f ih =>
    intro a0 x1 x2 σ hw
    unfold w_X8_tasksInRow_4 at hw
    refine v_iload_n X 2 rfl (gD D_X8_tasksInRow_0 4 rfl) rfl ?_
    refine v_aload_n X 0 rfl (gD D_X8_tasksInRow_0 5 rfl) rfl ?_
    refine v_getR X RX8 TX8 4 9 8 (by decide) rfl gin8 0 800 RX8 (Or.inl rfl) 0 30 rfl rfl rfl (by decide) lk_fRX8_12 (gD D_X8_tasksInRow_0 6 rfl) (fun o51 eo51 => ?_)
    replace hw := hw o51 eo51
    obtain ⟨a52, rfl, hw⟩ := hw
    refine v_callVi X (As := []) (rest := [.int x2]) (nA := 0) 0 0 0 0 (fun ht => c_Jx4a65c_size_8abf5 htr (ht.sub [0] rfl) hw) (Or.inl rfl) 0 (κ := 30) rfl (by decide) (rfl : gCl[13]? = some (RJx4a65c, TJx4a65c, 3)) lk_vRX8_45 (by decide +kernel) rfl rfl (by simp [rf_cat, ct_i]) (by decide) (by decide) rfl rfl (gD D_X8_tasksInRow_0 7 rfl) (fun x53 s54 hq _ _ => ?_)
    replace hw := hq
    clear hq
    refine v_icmp_ge X 42 (gD D_X8_tasksInRow_0 8 rfl) (by decide) (fun c55 => ?_) (fun c55 => ?_)
    · replace hw := hw.1 c55
      refine v_iload_n X 1 rfl (gD D_X8_tasksInRow_0 20 rfl) rfl ?_
      exact v_iret X hr hw (gD D_X8_tasksInRow_0 21 rfl)
    · replace hw := hw.2 c55
      refine v_aload_n X 0 rfl (gD D_X8_tasksInRow_0 9 rfl) rfl ?_
      refine v_getR X RX8 TX8 4 9 8 (by decide) rfl gin8 0 800 RX8 (Or.inl rfl) 1 30 rfl rfl rfl (by decide) lk_fRX8_12 (gD D_X8_tasksInRow_0 10 rfl) (fun o56 eo56 => ?_)
      replace hw := hw o56 eo56
      refine v_iload_n X 2 rfl (gD D_X8_tasksInRow_0 11 rfl) rfl ?_
      obtain ⟨a57, rfl, hw⟩ := hw
      refine v_callVu X (As := [.int x2]) (rest := []) (nA := 1) 0 0 0 0 (fun ht => c_Jx4a65c_get_915e3 htr (ht.sub [0] rfl) hw) (Or.inl rfl) 0 (κ := 30) rfl (by decide) (rfl : gCl[13]? = some (RJx4a65c, TJx4a65c, 3)) lk_vRX8_38 (by decide +kernel) rfl rfl (by decide) (by decide) (by decide) rfl rfl (gD D_X8_tasksInRow_0 12 rfl) (fun o58 s59 hq _ _ => ?_)
      replace hw := hq
      clear hq
      obtain ⟨a60, rfl, hw⟩ := hw
      obtain ⟨h61, hw⟩ := hw
      refine v_cast X RX10 TX10 7 11 10 h61 (by decide) rfl lk_kRX8_26 (gD D_X8_tasksInRow_0 13 rfl) ?_
      refine v_getI X RX10 TX10 7 11 10 (by decide) rfl gin10 5 1005 RX10 (Or.inl rfl) 0 rfl rfl (by decide) lk_fRX8_25 (gD D_X8_tasksInRow_0 14 rfl) ?_
      refine v_iconst X 1 (gD D_X8_tasksInRow_0 15 rfl) (by decide) ?_
      refine v_icmp_ne X 36 (gD D_X8_tasksInRow_0 16 rfl) (by decide) (fun c62 => ?_) (fun c62 => ?_)
      · replace hw := hw.1 c62
        refine v_iinc X (x2 + 1) 2 rfl [(2, .int (x2 + 1)), (0, va_rf (some a0)), (1, .int x1)] (gD D_X8_tasksInRow_0 18 rfl) rfl (by decide) rfl ?_
        refine v_goto X 4 (gD D_X8_tasksInRow_0 19 rfl) (by decide) ?_
        exact v_sub [3] [1, 2, 0] rfl rfl (ih a0 x1 (x2 + 1) s59 hw)
      · replace hw := hw.2 c62
        refine v_iinc X (x1 + 1) 1 rfl [(1, .int (x1 + 1)), (0, va_rf (some a0)), (2, .int x2)] (gD D_X8_tasksInRow_0 17 rfl) rfl (by decide) rfl ?_
        refine v_iinc X (x2 + 1) 2 rfl [(2, .int (x2 + 1)), (1, .int (x1 + 1)), (0, va_rf (some a0))] (gD D_X8_tasksInRow_0 18 rfl) rfl (by decide) rfl ?_
        refine v_goto X 4 (gD D_X8_tasksInRow_0 19 rfl) (by decide) ?_
        exact v_sub [3] [2, 1, 0] rfl rfl (ih a0 (x1 + 1) (x2 + 1) s59 hw)
set_option maxRecDepth 100000 in
set_option maxHeartbeats 4000000 in
theorem c_X8_tasksInRow {l : Launch} {G : GX} (htr : l.stackTraces = false) {σ : St} {a0 : Nat} {Q : Int32 → St → Prop} (ht : tvOk σ [(some a0, 9)]) (hw : w_X8_tasksInRow a0 σ Q) : MI l G 1 σ yX8_tasksInRow cX8_tasksInRow 3 (some .int) 3 0 0 [va_rf (some a0)] Q := by
  unfold w_X8_tasksInRow at hw
  refine m_start RX8 (by decide) htr ht (Nat.le_of_ble_eq_true rfl) rfl (lv := [(0, va_rf (some a0))]) (d := 1) (fun p e s m args below meth c X hr hin => ?_)
  refine v_iconst X 0 (gD D_X8_tasksInRow_0 0 rfl) (by decide) ?_
  refine v_istore_n X [(1, .int 0), (0, va_rf (some a0))] (gD D_X8_tasksInRow_0 1 rfl) rfl (by decide) rfl ?_
  refine v_iconst X 0 (gD D_X8_tasksInRow_0 2 rfl) (by decide) ?_
  refine v_istore_n X [(2, .int 0), (1, .int 0), (0, va_rf (some a0))] (gD D_X8_tasksInRow_0 3 rfl) rfl (by decide) rfl ?_
  obtain ⟨f63, hw⟩ := hw
  exact v_sub [0] [2, 1, 0] rfl rfl (t_X8_tasksInRow_4 X hr hin htr  f63 a0 0 0 σ hw)
set_option maxRecDepth 100000 in
set_option maxHeartbeats 4000000 in
theorem c_X11_boxAt {l : Launch} {G : GX} (htr : l.stackTraces = false) {k n : Nat} {σ : St} {a0 : Nat} {x1 : Int32} {x2 : Int32} {Q : Int32 → St → Prop} {Y : Nat → St → Prop} (ht : tvOk σ [(some a0, 12)]) (hw : w_X11_boxAt k n a0 x1 x2 σ Q Y) : MIX l G 1 σ yX11_boxAt cX11_boxAt 3 (some .int) 4 k n [va_rf (some a0), .int x1, .int x2] Q Y := by
  unfold w_X11_boxAt at hw
  refine m_startX RX11 (by decide) htr ht (Nat.le_of_ble_eq_true rfl) rfl (lv := [(0, va_rf (some a0)), (1, .int x1), (2, .int x2)]) (d := 1) (fun p e s m args below meth c X hr hin hex => ?_)
  refine v_aload_n X 0 rfl (gD D_X11_boxAt_0 0 rfl) rfl ?_
  refine v_iload_n X 1 rfl (gD D_X11_boxAt_0 1 rfl) rfl ?_
  refine v_callVi X (As := [.int x1]) (rest := []) (nA := 1) 0 0 k n (fun ht => c_X11_isOrder htr (ht.sub [0] rfl) hw) (Or.inl rfl) 0 (κ := 12) rfl (by decide) (rfl : gCl[11]? = some (RX11, TX11, 19)) lk_vRX11_240 (by decide +kernel) rfl rfl (by decide) (by decide) (by decide) rfl rfl (gD D_X11_boxAt_0 2 rfl) (fun x51 s52 hq _ _ => ?_)
  replace hw := hq
  clear hq
  refine v_if_ne X 16 (gD D_X11_boxAt_0 3 rfl) (by decide) (fun c53 => ?_) (fun c53 => ?_)
  · replace hw := hw.1 c53
    refine v_aload_n X 0 rfl (gD D_X11_boxAt_0 8 rfl) rfl ?_
    refine v_aload_n X 0 rfl (gD D_X11_boxAt_0 9 rfl) rfl ?_
    refine v_getR X RX11 TX11 19 12 11 (by decide) rfl gin11 6 1106 RX11 (Or.inl rfl) 0 30 rfl rfl rfl (by decide) lk_fRX11_40 (gD D_X11_boxAt_0 10 rfl) (fun o54 eo54 => ?_)
    replace hw := hw o54 eo54
    refine v_iload_n X 1 rfl (gD D_X11_boxAt_0 11 rfl) rfl ?_
    obtain ⟨a55, rfl, hw⟩ := hw
    refine v_callVu X (As := [.int x1]) (rest := [va_rf (some a0)]) (nA := 1) 0 0 k n (fun ht => c_Jx4a65c_get_915e3 htr (ht.sub [0] rfl) hw) (Or.inl rfl) 0 (κ := 30) rfl (by decide) (rfl : gCl[13]? = some (RJx4a65c, TJx4a65c, 3)) lk_vRX11_153 (by decide +kernel) rfl rfl (by simp [rf_cat, ct_i]) (by decide) (by decide) rfl rfl (gD D_X11_boxAt_0 12 rfl) (fun o56 s57 hq _ _ => ?_)
    replace hw := hq
    clear hq
    obtain ⟨a58, rfl, hw⟩ := hw
    obtain ⟨h59, hw⟩ := hw
    refine v_cast X RX7 TX7 7 8 7 h59 (by decide) rfl lk_kRX11_235 (gD D_X11_boxAt_0 13 rfl) ?_
    refine v_callVv X (As := [va_rf (some a58)]) (rest := []) (nA := 1) 0 0 k n (fun ht => c_X11_pack htr (ht.sub [2, 0] rfl) hw) (Or.inl rfl) 2 (κ := 12) rfl (by decide) (rfl : gCl[11]? = some (RX11, TX11, 19)) lk_vRX11_348 (by decide +kernel) rfl rfl (by decide) (by decide) (by decide) rfl rfl (gD D_X11_boxAt_0 14 rfl) (fun s61 hq _ _ => ?_)
    replace hw := hq
    clear hq
    refine v_iload_n X 2 rfl (gD D_X11_boxAt_0 15 rfl) rfl ?_
    refine v_if_lt X 43 (gD D_X11_boxAt_0 16 rfl) (by decide) (fun c62 => ?_) (fun c62 => ?_)
    · replace hw := hw.1 c62
      exact v_throw X hex 1 (by decide +kernel) lk_xRX11_83 lk_xi_1 lk_xaRX11_85 lk_xgRX11_83_85 (gD D_X11_boxAt_0 21 rfl) (gD D_X11_boxAt_0 22 rfl) (gD D_X11_boxAt_0 23 rfl) (gD D_X11_boxAt_0 24 rfl) (by decide) hw
    · replace hw := hw.2 c62
      refine v_iload_n X 2 rfl (gD D_X11_boxAt_0 17 rfl) rfl ?_
      refine v_aload_n X 0 rfl (gD D_X11_boxAt_0 18 rfl) rfl ?_
      refine v_getI X RX11 TX11 19 12 11 (by decide) rfl gin11 14 1114 RX11 (Or.inl rfl) 2 rfl rfl (by decide) lk_fRX11_352 (gD D_X11_boxAt_0 19 rfl) ?_
      refine v_icmp_lt X 51 (gD D_X11_boxAt_0 20 rfl) (by decide) (fun c63 => ?_) (fun c63 => ?_)
      · replace hw := hw.1 c63
        refine v_sipush X 1000 (gD D_X11_boxAt_0 25 rfl) (by decide) ?_
        refine v_aload_n X 0 rfl (gD D_X11_boxAt_0 26 rfl) rfl ?_
        refine v_getR X RX11 TX11 19 12 11 (by decide) rfl gin11 13 1113 RX11 (Or.inl rfl) 2 2 rfl rfl rfl (by decide) lk_fRX11_71 (gD D_X11_boxAt_0 27 rfl) (fun o64 eo64 => ?_)
        replace hw := hw o64 eo64
        refine v_iload_n X 2 rfl (gD D_X11_boxAt_0 28 rfl) rfl ?_
        refine v_iconst X 1 (gD D_X11_boxAt_0 29 rfl) (by decide) ?_
        obtain ⟨a65, rfl, hw⟩ := hw
        refine v_callVi X (As := [.int x2, .int 1]) (rest := [.int 1000]) (nA := 2) 0 0 k n (fun ht => c_X1_at htr (ht.sub [0] rfl) hw) (Or.inl rfl) 0 (κ := 2) rfl (by decide) (rfl : gCl[1]? = some (RX1, TX1, 2)) lk_vRX11_176 (by decide +kernel) rfl rfl (by simp [rf_cat, ct_i]) (by decide) (by decide) rfl rfl (gD D_X11_boxAt_0 30 rfl) (fun x66 s67 hq _ _ => ?_)
        replace hw := hq
        clear hq
        refine v_imul X (gD D_X11_boxAt_0 31 rfl) ?_
        refine v_aload_n X 0 rfl (gD D_X11_boxAt_0 32 rfl) rfl ?_
        refine v_getR X RX11 TX11 19 12 11 (by decide) rfl gin11 13 1113 RX11 (Or.inl rfl) 3 2 rfl rfl rfl (by decide) lk_fRX11_71 (gD D_X11_boxAt_0 33 rfl) (fun o68 eo68 => ?_)
        replace hw := hw o68 eo68
        refine v_iload_n X 2 rfl (gD D_X11_boxAt_0 34 rfl) rfl ?_
        refine v_iconst X 2 (gD D_X11_boxAt_0 35 rfl) (by decide) ?_
        obtain ⟨a69, rfl, hw⟩ := hw
        refine v_callVi X (As := [.int x2, .int 2]) (rest := [.int (1000 * x66)]) (nA := 2) 0 0 k n (fun ht => c_X1_at htr (ht.sub [0] rfl) hw) (Or.inl rfl) 0 (κ := 2) rfl (by decide) (rfl : gCl[1]? = some (RX1, TX1, 2)) lk_vRX11_176 (by decide +kernel) rfl rfl (by simp [rf_cat, ct_i]) (by decide) (by decide) rfl rfl (gD D_X11_boxAt_0 36 rfl) (fun x70 s71 hq _ _ => ?_)
        replace hw := hq
        clear hq
        refine v_iadd X (gD D_X11_boxAt_0 37 rfl) ?_
        exact v_X (v_iret X hr hw (gD D_X11_boxAt_0 38 rfl))
      · replace hw := hw.2 c63
        exact v_throw X hex 1 (by decide +kernel) lk_xRX11_83 lk_xi_1 lk_xaRX11_85 lk_xgRX11_83_85 (gD D_X11_boxAt_0 21 rfl) (gD D_X11_boxAt_0 22 rfl) (gD D_X11_boxAt_0 23 rfl) (gD D_X11_boxAt_0 24 rfl) (by decide) hw
  · replace hw := hw.2 c53
    exact v_throw X hex 1 (by decide +kernel) lk_xRX11_83 lk_xi_1 lk_xaRX11_85 lk_xgRX11_83_85 (gD D_X11_boxAt_0 4 rfl) (gD D_X11_boxAt_0 5 rfl) (gD D_X11_boxAt_0 6 rfl) (gD D_X11_boxAt_0 7 rfl) (by decide) hw
set_option maxRecDepth 100000 in
set_option maxHeartbeats 4000000 in
theorem c_X11_boxes {l : Launch} {G : GX} (htr : l.stackTraces = false) {k n : Nat} {σ : St} {a0 : Nat} {x1 : Int32} {Q : Int32 → St → Prop} {Y : Nat → St → Prop} (ht : tvOk σ [(some a0, 12)]) (hw : w_X11_boxes k n a0 x1 σ Q Y) : MIX l G 1 σ yX11_boxes cX11_boxes 2 (some .int) 4 k n [va_rf (some a0), .int x1] Q Y := by
  unfold w_X11_boxes at hw
  refine m_startX RX11 (by decide) htr ht (Nat.le_of_ble_eq_true rfl) rfl (lv := [(0, va_rf (some a0)), (1, .int x1)]) (d := 1) (fun p e s m args below meth c X hr hin hex => ?_)
  refine v_aload_n X 0 rfl (gD D_X11_boxes_0 0 rfl) rfl ?_
  refine v_iload_n X 1 rfl (gD D_X11_boxes_0 1 rfl) rfl ?_
  refine v_callVi X (As := [.int x1]) (rest := []) (nA := 1) 0 0 k n (fun ht => c_X11_isOrder htr (ht.sub [0] rfl) hw) (Or.inl rfl) 0 (κ := 12) rfl (by decide) (rfl : gCl[11]? = some (RX11, TX11, 19)) lk_vRX11_240 (by decide +kernel) rfl rfl (by decide) (by decide) (by decide) rfl rfl (gD D_X11_boxes_0 2 rfl) (fun x51 s52 hq _ _ => ?_)
  replace hw := hq
  clear hq
  refine v_if_ne X 16 (gD D_X11_boxes_0 3 rfl) (by decide) (fun c53 => ?_) (fun c53 => ?_)
  · replace hw := hw.1 c53
    refine v_aload_n X 0 rfl (gD D_X11_boxes_0 8 rfl) rfl ?_
    refine v_aload_n X 0 rfl (gD D_X11_boxes_0 9 rfl) rfl ?_
    refine v_getR X RX11 TX11 19 12 11 (by decide) rfl gin11 6 1106 RX11 (Or.inl rfl) 0 30 rfl rfl rfl (by decide) lk_fRX11_40 (gD D_X11_boxes_0 10 rfl) (fun o54 eo54 => ?_)
    replace hw := hw o54 eo54
    refine v_iload_n X 1 rfl (gD D_X11_boxes_0 11 rfl) rfl ?_
    obtain ⟨a55, rfl, hw⟩ := hw
    refine v_callVu X (As := [.int x1]) (rest := [va_rf (some a0)]) (nA := 1) 0 0 k n (fun ht => c_Jx4a65c_get_915e3 htr (ht.sub [0] rfl) hw) (Or.inl rfl) 0 (κ := 30) rfl (by decide) (rfl : gCl[13]? = some (RJx4a65c, TJx4a65c, 3)) lk_vRX11_153 (by decide +kernel) rfl rfl (by simp [rf_cat, ct_i]) (by decide) (by decide) rfl rfl (gD D_X11_boxes_0 12 rfl) (fun o56 s57 hq _ _ => ?_)
    replace hw := hq
    clear hq
    obtain ⟨a58, rfl, hw⟩ := hw
    obtain ⟨h59, hw⟩ := hw
    refine v_cast X RX7 TX7 7 8 7 h59 (by decide) rfl lk_kRX11_235 (gD D_X11_boxes_0 13 rfl) ?_
    refine v_callVv X (As := [va_rf (some a58)]) (rest := []) (nA := 1) 0 0 k n (fun ht => c_X11_pack htr (ht.sub [2, 0] rfl) hw) (Or.inl rfl) 2 (κ := 12) rfl (by decide) (rfl : gCl[11]? = some (RX11, TX11, 19)) lk_vRX11_348 (by decide +kernel) rfl rfl (by decide) (by decide) (by decide) rfl rfl (gD D_X11_boxes_0 14 rfl) (fun s61 hq _ _ => ?_)
    replace hw := hq
    clear hq
    refine v_aload_n X 0 rfl (gD D_X11_boxes_0 15 rfl) rfl ?_
    refine v_getI X RX11 TX11 19 12 11 (by decide) rfl gin11 14 1114 RX11 (Or.inl rfl) 2 rfl rfl (by decide) lk_fRX11_352 (gD D_X11_boxes_0 16 rfl) ?_
    exact v_X (v_iret X hr hw (gD D_X11_boxes_0 17 rfl))
  · replace hw := hw.2 c53
    exact v_throw X hex 1 (by decide +kernel) lk_xRX11_83 lk_xi_1 lk_xaRX11_85 lk_xgRX11_83_85 (gD D_X11_boxes_0 4 rfl) (gD D_X11_boxes_0 5 rfl) (gD D_X11_boxes_0 6 rfl) (gD D_X11_boxes_0 7 rfl) (by decide) hw
set_option maxRecDepth 100000 in
set_option maxHeartbeats 4000000 in
theorem t_X11_canBeWhole_29 {p : Program} {l : Launch} {e : Env} {s : State} {m : MethodId} {args : Array Value} {below : List Frame} {meth : Method} {c : Code} {G : GX} {σ0 : St} {mc ms : Nat} {Q : Int32 → St → Prop} (X : VC p l (rmD 4 mc ms) s m args meth c G 4 mc ms 8 RX11 cX11_canBeWhole) (hr : meth.sig.returnType = (some .boolean)) (hin : meth.name = yX11_canBeWhole.name) (htr : l.stackTraces = false) {K11 : Nat → Nat → Option Nat → Int32 → Int32 → St → Prop} (hK11 : ∀ (a0 : Nat) (a1 : Nat) (o2 : Option Nat) (x3 : Int32) (x4 : Int32) (σ : St), K11 a0 a1 o2 x3 x4 σ → V p l e (rmD 4 mc ms) s m args below meth c (MQ below (va_Qi Q (gB G 1 σ0) (GA G)) args s mc ms (GA G)) G 1 σ0 mc ms 8 σ 0 0 [(some a0, 12), (some a1, 8), (o2, 25)] 11 [(0, va_rf (some a0)), (1, va_rf (some a1)), (2, va_rf o2), (3, .int x3), (4, .int x4)] []) : ∀ (f : Nat) (a0 : Nat) (a1 : Nat) (o2 : Option Nat) (x3 : Int32) (x4 : Int32) (o5 : Option Nat) (x6 : Int32) (x7 : Int32) (σ : St), w_X11_canBeWhole_29 Q K11 f a0 a1 o2 x3 x4 o5 x6 x7 σ → V p l e (rmD 4 mc ms) s m args below meth c (MQ below (va_Qi Q (gB G 1 σ0) (GA G)) args s mc ms (GA G)) G 1 σ0 mc ms 8 σ 0 0 [(some a0, 12), (some a1, 8), (o2, 25), (o5, 4)] 29 [(0, va_rf (some a0)), (1, va_rf (some a1)), (2, va_rf o2), (3, .int x3), (4, .int x4), (5, va_rf o5), (6, .int x6), (7, .int x7)] [] := by
  intro f
  induction f with
  | zero => intro a0 a1 o2 x3 x4 o5 x6 x7 σ hw; exact hw.elim
  | succ f ih =>
    intro a0 a1 o2 x3 x4 o5 x6 x7 σ hw
    unfold w_X11_canBeWhole_29 at hw
    refine v_iload X 7 rfl (gD D_X11_canBeWhole_0 19 rfl) ?_
    refine v_aload_n X 1 rfl (gD D_X11_canBeWhole_0 20 rfl) rfl ?_
    refine v_getR X RX7 TX7 7 8 7 (by decide) rfl gin7 4 704 RX7 (Or.inl rfl) 1 30 rfl rfl rfl (by decide) lk_fRX11_243 (gD D_X11_canBeWhole_0 21 rfl) (fun o58 eo58 => ?_)
    replace hw := hw o58 eo58
    obtain ⟨a59, rfl, hw⟩ := hw
    refine v_callVi X (As := []) (rest := [.int x7]) (nA := 0) 0 0 0 0 (fun ht => c_Jx4a65c_size_8abf5 htr (ht.sub [0] rfl) hw) (Or.inl rfl) 0 (κ := 30) rfl (by decide) (rfl : gCl[13]? = some (RJx4a65c, TJx4a65c, 3)) lk_vRX11_145 (by decide +kernel) rfl rfl (by simp [rf_cat, ct_i]) (by decide) (by decide) rfl rfl (gD D_X11_canBeWhole_0 22 rfl) (fun x60 s61 hq _ _ => ?_)
    replace hw := hq
    clear hq
    refine v_icmp_ge X 91 (gD D_X11_canBeWhole_0 23 rfl) (by decide) (fun c62 => ?_) (fun c62 => ?_)
    · replace hw := hw.1 c62
      refine v_iload X 6 rfl (gD D_X11_canBeWhole_0 45 rfl) ?_
      refine v_aload_n X 0 rfl (gD D_X11_canBeWhole_0 46 rfl) rfl ?_
      refine v_aload_n X 1 rfl (gD D_X11_canBeWhole_0 47 rfl) rfl ?_
      refine v_aload X 5 rfl (gD D_X11_canBeWhole_0 48 rfl) ?_
      obtain ⟨a63, rfl, hw⟩ := hw
      refine v_callVi X (As := [va_rf (some a1), va_rf (some a63)]) (rest := [.int x6]) (nA := 2) 0 0 0 0 (fun ht => c_X11_piecesGoodFor htr (ht.sub [1, 2, 4] rfl) hw) (Or.inl rfl) 1 (κ := 12) rfl (by decide) (rfl : gCl[11]? = some (RX11, TX11, 19)) lk_vRX11_455 (by decide +kernel) rfl rfl (by simp [rf_cat, ct_i]) (by decide) (by decide) rfl rfl (gD D_X11_canBeWhole_0 49 rfl) (fun x64 s65 hq _ _ => ?_)
      replace hw := hq
      clear hq
      refine v_icmp_le X 105 (gD D_X11_canBeWhole_0 50 rfl) (by decide) (fun c66 => ?_) (fun c66 => ?_)
      · replace hw := hw.1 c66
        refine v_iinc X (x4 + 1) 4 rfl [(4, .int (x4 + 1)), (0, va_rf (some a0)), (1, va_rf (some a1)), (2, va_rf o2), (3, .int x3), (5, va_rf (some a63)), (6, .int x6), (7, .int x7)] (gD D_X11_canBeWhole_0 53 rfl) rfl (by decide) rfl ?_
        refine v_goto X 11 (gD D_X11_canBeWhole_0 54 rfl) (by decide) ?_
        exact v_sub [1, 2, 3] [1, 2, 3, 4, 0] rfl rfl (hK11 a0 a1 o2 x3 (x4 + 1) s65 hw)
      · replace hw := hw.2 c66
        refine v_iconst X 0 (gD D_X11_canBeWhole_0 51 rfl) (by decide) ?_
        exact v_zret X hr (by decide) hw (gD D_X11_canBeWhole_0 52 rfl)
    · replace hw := hw.2 c62
      refine v_iload X 6 rfl (gD D_X11_canBeWhole_0 24 rfl) ?_
      refine v_aload_n X 1 rfl (gD D_X11_canBeWhole_0 25 rfl) rfl ?_
      refine v_getR X RX7 TX7 7 8 7 (by decide) rfl gin7 4 704 RX7 (Or.inl rfl) 2 30 rfl rfl rfl (by decide) lk_fRX11_243 (gD D_X11_canBeWhole_0 26 rfl) (fun o67 eo67 => ?_)
      replace hw := hw o67 eo67
      refine v_iload X 7 rfl (gD D_X11_canBeWhole_0 27 rfl) ?_
      obtain ⟨a68, rfl, hw⟩ := hw
      refine v_callVu X (As := [.int x7]) (rest := [.int x6]) (nA := 1) 0 0 0 0 (fun ht => c_Jx4a65c_get_915e3 htr (ht.sub [0] rfl) hw) (Or.inl rfl) 0 (κ := 30) rfl (by decide) (rfl : gCl[13]? = some (RJx4a65c, TJx4a65c, 3)) lk_vRX11_153 (by decide +kernel) rfl rfl (by simp [rf_cat, ct_i]) (by decide) (by decide) rfl rfl (gD D_X11_canBeWhole_0 28 rfl) (fun o69 s70 hq _ _ => ?_)
      replace hw := hq
      clear hq
      obtain ⟨a71, rfl, hw⟩ := hw
      obtain ⟨h72, hw⟩ := hw
      refine v_cast X RX4 TX4 4 5 4 h72 (by decide) rfl lk_kRX11_249 (gD D_X11_canBeWhole_0 29 rfl) ?_
      refine v_getR X RX4 TX4 4 5 4 (by decide) rfl gin4 0 400 RX4 (Or.inl rfl) 0 4 rfl rfl rfl (by decide) lk_fRX11_454 (gD D_X11_canBeWhole_0 30 rfl) (fun o73 eo73 => ?_)
      replace hw := hw o73 eo73
      refine v_aload X 5 rfl (gD D_X11_canBeWhole_0 31 rfl) ?_
      refine v_acmp_ne X 81 (gD D_X11_canBeWhole_0 32 rfl) (by decide) (fun c74 => ?_) (fun c74 => ?_)
      · replace hw := hw.1 c74
        refine v_iconst X 0 (gD D_X11_canBeWhole_0 40 rfl) (by decide) ?_
        refine v_iadd X (gD D_X11_canBeWhole_0 41 rfl) ?_
        refine v_topi (fun x75 ex75 => ?_)
        replace hw := hw x75 ex75
        refine v_istore X [(6, .int x75), (0, va_rf (some a0)), (1, va_rf (some a1)), (2, va_rf o2), (3, .int x3), (4, .int x4), (5, va_rf o5), (7, .int x7)] (gD D_X11_canBeWhole_0 42 rfl) (by decide) (by simp [List.filter_cons, rf_cat]) ?_
        refine v_iinc X (x7 + 1) 7 rfl [(7, .int (x7 + 1)), (6, .int x75), (0, va_rf (some a0)), (1, va_rf (some a1)), (2, va_rf o2), (3, .int x3), (4, .int x4), (5, va_rf o5)] (gD D_X11_canBeWhole_0 43 rfl) rfl (by decide) rfl ?_
        refine v_goto X 29 (gD D_X11_canBeWhole_0 44 rfl) (by decide) ?_
        exact v_sub [4, 5, 6, 7] [2, 3, 4, 5, 6, 7, 1, 0] rfl rfl (ih a0 a1 o2 x3 x4 o5 x75 (x7 + 1) s70 hw)
      · replace hw := hw.2 c74
        refine v_aload_n X 1 rfl (gD D_X11_canBeWhole_0 33 rfl) rfl ?_
        refine v_getR X RX7 TX7 7 8 7 (by decide) rfl gin7 4 704 RX7 (Or.inl rfl) 5 30 rfl rfl rfl (by decide) lk_fRX11_243 (gD D_X11_canBeWhole_0 34 rfl) (fun o76 eo76 => ?_)
        replace hw := hw o76 eo76
        refine v_iload X 7 rfl (gD D_X11_canBeWhole_0 35 rfl) ?_
        obtain ⟨a77, rfl, hw⟩ := hw
        refine v_callVu X (As := [.int x7]) (rest := [.int x6]) (nA := 1) 0 0 0 0 (fun ht => c_Jx4a65c_get_915e3 htr (ht.sub [0] rfl) hw) (Or.inl rfl) 0 (κ := 30) rfl (by decide) (rfl : gCl[13]? = some (RJx4a65c, TJx4a65c, 3)) lk_vRX11_153 (by decide +kernel) rfl rfl (by simp [rf_cat, ct_i]) (by decide) (by decide) rfl rfl (gD D_X11_canBeWhole_0 36 rfl) (fun o78 s79 hq _ _ => ?_)
        replace hw := hq
        clear hq
        obtain ⟨a80, rfl, hw⟩ := hw
        obtain ⟨h81, hw⟩ := hw
        refine v_cast X RX4 TX4 4 5 4 h81 (by decide) rfl lk_kRX11_249 (gD D_X11_canBeWhole_0 37 rfl) ?_
        refine v_callVi X (As := []) (rest := [.int x6]) (nA := 0) 0 0 0 0 (fun ht => c_X4_lacking htr (ht.sub [0] rfl) hw) (Or.inl rfl) 0 (κ := 5) rfl (by decide) (rfl : gCl[4]? = some (RX4, TX4, 4)) lk_vRX11_259 (by decide +kernel) rfl rfl (by simp [rf_cat, ct_i]) (by decide) (by decide) rfl rfl (gD D_X11_canBeWhole_0 38 rfl) (fun x82 s83 hq _ _ => ?_)
        replace hw := hq
        clear hq
        refine v_goto X 82 (gD D_X11_canBeWhole_0 39 rfl) (by decide) ?_
        refine v_iadd X (gD D_X11_canBeWhole_0 41 rfl) ?_
        refine v_topi (fun x84 ex84 => ?_)
        replace hw := hw x84 ex84
        refine v_istore X [(6, .int x84), (0, va_rf (some a0)), (1, va_rf (some a1)), (2, va_rf o2), (3, .int x3), (4, .int x4), (5, va_rf o5), (7, .int x7)] (gD D_X11_canBeWhole_0 42 rfl) (by decide) (by simp [List.filter_cons, rf_cat]) ?_
        refine v_iinc X (x7 + 1) 7 rfl [(7, .int (x7 + 1)), (6, .int x84), (0, va_rf (some a0)), (1, va_rf (some a1)), (2, va_rf o2), (3, .int x3), (4, .int x4), (5, va_rf o5)] (gD D_X11_canBeWhole_0 43 rfl) rfl (by decide) rfl ?_
        refine v_goto X 29 (gD D_X11_canBeWhole_0 44 rfl) (by decide) ?_
        exact v_sub [6, 7, 8, 9] [2, 3, 4, 5, 6, 7, 1, 0] rfl rfl (ih a0 a1 o2 x3 x4 o5 x84 (x7 + 1) s83 hw)
set_option maxRecDepth 100000 in
set_option maxHeartbeats 4000000 in
theorem t_X11_canBeWhole_11 {p : Program} {l : Launch} {e : Env} {s : State} {m : MethodId} {args : Array Value} {below : List Frame} {meth : Method} {c : Code} {G : GX} {σ0 : St} {mc ms : Nat} {Q : Int32 → St → Prop} (X : VC p l (rmD 4 mc ms) s m args meth c G 4 mc ms 8 RX11 cX11_canBeWhole) (hr : meth.sig.returnType = (some .boolean)) (hin : meth.name = yX11_canBeWhole.name) (htr : l.stackTraces = false) : ∀ (f : Nat) (a0 : Nat) (a1 : Nat) (o2 : Option Nat) (x3 : Int32) (x4 : Int32) (σ : St), w_X11_canBeWhole_11 Q  f a0 a1 o2 x3 x4 σ → V p l e (rmD 4 mc ms) s m args below meth c (MQ below (va_Qi Q (gB G 1 σ0) (GA G)) args s mc ms (GA G)) G 1 σ0 mc ms 8 σ 0 0 [(some a0, 12), (some a1, 8), (o2, 25)] 11 [(0, va_rf (some a0)), (1, va_rf (some a1)), (2, va_rf o2), (3, .int x3), (4, .int x4)] [] := by
  intro f
  induction f with
  | zero => intro a0 a1 o2 x3 x4 σ hw; exact hw.elim
  | succ f ih =>
    intro a0 a1 o2 x3 x4 σ hw
    unfold w_X11_canBeWhole_11 at hw
    refine v_iload X 4 rfl (gD D_X11_canBeWhole_0 8 rfl) ?_
    refine v_iload_n X 3 rfl (gD D_X11_canBeWhole_0 9 rfl) rfl ?_
    refine v_icmp_ge X 111 (gD D_X11_canBeWhole_0 10 rfl) (by decide) (fun c54 => ?_) (fun c54 => ?_)
    · replace hw := hw.1 c54
      refine v_iconst X 1 (gD D_X11_canBeWhole_0 55 rfl) (by decide) ?_
      exact v_zret X hr (by decide) hw (gD D_X11_canBeWhole_0 56 rfl)
    · replace hw := hw.2 c54
      refine v_aload_n X 2 rfl (gD D_X11_canBeWhole_0 11 rfl) rfl ?_
      refine v_iload X 4 rfl (gD D_X11_canBeWhole_0 12 rfl) ?_
      obtain ⟨a55, rfl, hw⟩ := hw
      obtain ⟨h56, hw⟩ := hw
      refine v_aald X 2 4 rfl (by decide) h56 (gD D_X11_canBeWhole_0 13 rfl) (fun o57 eo57 => ?_)
      replace hw := hw o57 eo57
      refine v_astore X [(5, va_rf o57), (0, va_rf (some a0)), (1, va_rf (some a1)), (2, va_rf (some a55)), (3, .int x3), (4, .int x4)] (gD D_X11_canBeWhole_0 14 rfl) (by decide) rfl ?_
      refine v_iconst X 0 (gD D_X11_canBeWhole_0 15 rfl) (by decide) ?_
      refine v_istore X [(6, .int 0), (5, va_rf o57), (0, va_rf (some a0)), (1, va_rf (some a1)), (2, va_rf (some a55)), (3, .int x3), (4, .int x4)] (gD D_X11_canBeWhole_0 16 rfl) (by decide) (by simp [List.filter_cons, rf_cat]) ?_
      refine v_iconst X 0 (gD D_X11_canBeWhole_0 17 rfl) (by decide) ?_
      refine v_istore X [(7, .int 0), (6, .int 0), (5, va_rf o57), (0, va_rf (some a0)), (1, va_rf (some a1)), (2, va_rf (some a55)), (3, .int x3), (4, .int x4)] (gD D_X11_canBeWhole_0 18 rfl) (by decide) rfl ?_
      obtain ⟨f85, hw⟩ := hw
      exact v_sub [1, 2, 3, 0] [3, 4, 5, 6, 7, 2, 1, 0] rfl rfl (t_X11_canBeWhole_29 X hr hin htr ih f85 a0 a1 (some a55) x3 x4 o57 0 0 σ hw)
set_option maxRecDepth 100000 in
set_option maxHeartbeats 4000000 in
theorem c_X11_canBeWhole {l : Launch} {G : GX} (htr : l.stackTraces = false) {σ : St} {a0 : Nat} {a1 : Nat} {Q : Int32 → St → Prop} (ht : tvOk σ [(some a0, 12), (some a1, 8)]) (hw : w_X11_canBeWhole a0 a1 σ Q) : MI l G 1 σ yX11_canBeWhole cX11_canBeWhole 8 (some .boolean) 4 0 0 [va_rf (some a0), va_rf (some a1)] Q := by
  unfold w_X11_canBeWhole at hw
  refine m_start RX11 (by decide) htr ht (Nat.le_of_ble_eq_true rfl) rfl (lv := [(0, va_rf (some a0)), (1, va_rf (some a1))]) (d := 1) (fun p e s m args below meth c X hr hin => ?_)
  refine v_aload_n X 0 rfl (gD D_X11_canBeWhole_0 0 rfl) rfl ?_
  refine v_getR X RX11 TX11 19 12 11 (by decide) rfl gin11 1 1101 RX11 (Or.inl rfl) 0 25 rfl rfl rfl (by decide) lk_fRX11_17 (gD D_X11_canBeWhole_0 1 rfl) (fun o51 eo51 => ?_)
  replace hw := hw o51 eo51
  refine v_astore_n X [(2, va_rf o51), (0, va_rf (some a0)), (1, va_rf (some a1))] (gD D_X11_canBeWhole_0 2 rfl) rfl (by decide) rfl ?_
  refine v_aload_n X 0 rfl (gD D_X11_canBeWhole_0 3 rfl) rfl ?_
  obtain ⟨a52, rfl, hw⟩ := hw
  refine v_alen X 0 rfl (by decide) (gD D_X11_canBeWhole_0 4 rfl) ?_
  refine v_topi (fun x53 ex53 => ?_)
  replace hw := hw x53 ex53
  refine v_istore_n X [(3, .int x53), (2, va_rf (some a52)), (0, va_rf (some a0)), (1, va_rf (some a1))] (gD D_X11_canBeWhole_0 5 rfl) rfl (by decide) rfl ?_
  refine v_iconst X 0 (gD D_X11_canBeWhole_0 6 rfl) (by decide) ?_
  refine v_istore X [(4, .int 0), (3, .int x53), (2, va_rf (some a52)), (0, va_rf (some a0)), (1, va_rf (some a1))] (gD D_X11_canBeWhole_0 7 rfl) (by decide) rfl ?_
  obtain ⟨f86, hw⟩ := hw
  exact v_sub [1, 2, 0] [3, 4, 2, 1, 0] rfl rfl (t_X11_canBeWhole_11 X hr hin htr  f86 a0 a1 (some a52) x53 0 σ hw)
set_option maxRecDepth 100000 in
set_option maxHeartbeats 4000000 in
theorem c_X11_close {l : Launch} {G : GX} (htr : l.stackTraces = false) {k n : Nat} {σ : St} {a0 : Nat} {x1 : Int32} {Q : Int32 → St → Prop} {Y : Nat → St → Prop} (ht : tvOk σ [(some a0, 12)]) (hw : w_X11_close k n a0 x1 σ Q Y) : MIX l G 1 σ yX11_close cX11_close 3 (some .int) 4 k n [va_rf (some a0), .int x1] Q Y := by
  unfold w_X11_close at hw
  refine m_startX RX11 (by decide) htr ht (Nat.le_of_ble_eq_true rfl) rfl (lv := [(0, va_rf (some a0)), (1, .int x1)]) (d := 1) (fun p e s m args below meth c X hr hin hex => ?_)
  refine v_aload_n X 0 rfl (gD D_X11_close_0 0 rfl) rfl ?_
  refine v_iload_n X 1 rfl (gD D_X11_close_0 1 rfl) rfl ?_
  refine v_callVi X (As := [.int x1]) (rest := []) (nA := 1) 0 0 k n (fun ht => c_X11_isNotice htr (ht.sub [0] rfl) hw) (Or.inl rfl) 0 (κ := 12) rfl (by decide) (rfl : gCl[11]? = some (RX11, TX11, 19)) lk_vRX11_195 (by decide +kernel) rfl rfl (by decide) (by decide) (by decide) rfl rfl (gD D_X11_close_0 2 rfl) (fun x51 s52 hq _ _ => ?_)
  replace hw := hq
  clear hq
  refine v_if_ne X 16 (gD D_X11_close_0 3 rfl) (by decide) (fun c53 => ?_) (fun c53 => ?_)
  · replace hw := hw.1 c53
    refine v_aload_n X 0 rfl (gD D_X11_close_0 8 rfl) rfl ?_
    refine v_getR X RX11 TX11 19 12 11 (by decide) rfl gin11 5 1105 RX11 (Or.inl rfl) 0 30 rfl rfl rfl (by decide) lk_fRX11_37 (gD D_X11_close_0 9 rfl) (fun o54 eo54 => ?_)
    replace hw := hw o54 eo54
    refine v_iload_n X 1 rfl (gD D_X11_close_0 10 rfl) rfl ?_
    obtain ⟨a55, rfl, hw⟩ := hw
    refine v_callVu X (As := [.int x1]) (rest := []) (nA := 1) 0 0 k n (fun ht => c_Jx4a65c_get_915e3 htr (ht.sub [0] rfl) hw) (Or.inl rfl) 0 (κ := 30) rfl (by decide) (rfl : gCl[13]? = some (RJx4a65c, TJx4a65c, 3)) lk_vRX11_153 (by decide +kernel) rfl rfl (by decide) (by decide) (by decide) rfl rfl (gD D_X11_close_0 11 rfl) (fun o56 s57 hq _ _ => ?_)
    replace hw := hq
    clear hq
    obtain ⟨a58, rfl, hw⟩ := hw
    obtain ⟨h59, hw⟩ := hw
    refine v_cast X RX6 TX6 3 7 6 h59 (by decide) rfl lk_kRX11_190 (gD D_X11_close_0 12 rfl) ?_
    refine v_astore_n X [(2, va_rf (some a58)), (0, va_rf (some a0)), (1, .int x1)] (gD D_X11_close_0 13 rfl) rfl (by decide) rfl ?_
    refine v_aload_n X 0 rfl (gD D_X11_close_0 14 rfl) rfl ?_
    refine v_getI X RX6 TX6 3 7 6 (by decide) rfl gin6 2 602 RX6 (Or.inl rfl) 0 rfl rfl (by decide) lk_fRX11_198 (gD D_X11_close_0 15 rfl) ?_
    refine v_if_eq X 43 (gD D_X11_close_0 16 rfl) (by decide) (fun c60 => ?_) (fun c60 => ?_)
    · replace hw := hw.1 c60
      refine v_aload_n X 0 rfl (gD D_X11_close_0 21 rfl) rfl ?_
      refine v_iconst X 1 (gD D_X11_close_0 22 rfl) (by decide) ?_
      refine v_putI X RX6 TX6 3 7 6 (by decide) rfl gin6 2 602 tyX6 tyX6_ok nmX6 RX6 (Or.inl rfl) 0 rfl .boolean (bool_fit (by decide)) rfl (by decide) (Or.inl rfl) lk_fRX11_198 rfl rfl (gD D_X11_close_0 23 rfl) (fun s61 es61 => ?_)
      replace hw := hw s61 es61
      refine v_aload_n X 1 rfl (gD D_X11_close_0 24 rfl) rfl ?_
      refine v_iload_n X 2 rfl (gD D_X11_close_0 25 rfl) rfl ?_
      refine v_iconst X 1 (gD D_X11_close_0 26 rfl) (by decide) ?_
      refine v_callVi X (As := [.int x1, .int 1]) (rest := []) (nA := 2) 0 0 k n (fun ht => c_X11_piecesThatCame htr (ht.sub [2] rfl) hw) (Or.inl rfl) 2 (κ := 12) rfl (by decide) (rfl : gCl[11]? = some (RX11, TX11, 19)) lk_vRX11_212 (by decide +kernel) rfl rfl (by decide) (by decide) (by decide) rfl rfl (gD D_X11_close_0 27 rfl) (fun x62 s63 hq _ _ => ?_)
      replace hw := hq
      clear hq
      refine v_aload_n X 0 rfl (gD D_X11_close_0 28 rfl) rfl ?_
      refine v_getI X RX6 TX6 3 7 6 (by decide) rfl gin6 1 601 RX6 (Or.inl rfl) 0 rfl rfl (by decide) lk_fRX11_216 (gD D_X11_close_0 29 rfl) ?_
      refine v_isub X (gD D_X11_close_0 30 rfl) ?_
      exact v_X (v_iret X hr hw (gD D_X11_close_0 31 rfl))
    · replace hw := hw.2 c60
      exact v_throw X hex 3 (by decide +kernel) lk_xRX11_100 lk_xi_3 lk_xaRX11_102 lk_xgRX11_100_102 (gD D_X11_close_0 17 rfl) (gD D_X11_close_0 18 rfl) (gD D_X11_close_0 19 rfl) (gD D_X11_close_0 20 rfl) (by decide) hw
  · replace hw := hw.2 c53
    exact v_throw X hex 1 (by decide +kernel) lk_xRX11_83 lk_xi_1 lk_xaRX11_85 lk_xgRX11_83_85 (gD D_X11_close_0 4 rfl) (gD D_X11_close_0 5 rfl) (gD D_X11_close_0 6 rfl) (gD D_X11_close_0 7 rfl) (by decide) hw
set_option maxRecDepth 100000 in
set_option maxHeartbeats 4000000 in
theorem c_X11_comeBack {l : Launch} {G : GX} (htr : l.stackTraces = false) {k n : Nat} {σ : St} {a0 : Nat} {x1 : Int32} {x2 : Int32} {x3 : Int32} {Q : Int32 → St → Prop} {Y : Nat → St → Prop} (ht : tvOk σ [(some a0, 12)]) (hw : w_X11_comeBack k n a0 x1 x2 x3 σ Q Y) : MIX l G 1 σ yX11_comeBack cX11_comeBack 4 (some .int) 4 k n [va_rf (some a0), .int x1, .int x2, .int x3] Q Y := by
  unfold w_X11_comeBack at hw
  refine m_startX RX11 (by decide) htr ht (Nat.le_of_ble_eq_true rfl) rfl (lv := [(0, va_rf (some a0)), (1, .int x1), (2, .int x2), (3, .int x3)]) (d := 1) (fun p e s m args below meth c X hr hin hex => ?_)
  refine v_aload_n X 0 rfl (gD D_X11_comeBack_0 0 rfl) rfl ?_
  refine v_iload_n X 1 rfl (gD D_X11_comeBack_0 1 rfl) rfl ?_
  refine v_callVi X (As := [.int x1]) (rest := []) (nA := 1) 0 0 k n (fun ht => c_X11_isOrder htr (ht.sub [0] rfl) hw) (Or.inl rfl) 0 (κ := 12) rfl (by decide) (rfl : gCl[11]? = some (RX11, TX11, 19)) lk_vRX11_240 (by decide +kernel) rfl rfl (by decide) (by decide) (by decide) rfl rfl (gD D_X11_comeBack_0 2 rfl) (fun x51 s52 hq _ _ => ?_)
  replace hw := hq
  clear hq
  refine v_if_eq X 16 (gD D_X11_comeBack_0 3 rfl) (by decide) (fun c53 => ?_) (fun c53 => ?_)
  · replace hw := hw.1 c53
    exact v_throw X hex 1 (by decide +kernel) lk_xRX11_83 lk_xi_1 lk_xaRX11_85 lk_xgRX11_83_85 (gD D_X11_comeBack_0 8 rfl) (gD D_X11_comeBack_0 9 rfl) (gD D_X11_comeBack_0 10 rfl) (gD D_X11_comeBack_0 11 rfl) (by decide) hw
  · replace hw := hw.2 c53
    refine v_aload_n X 0 rfl (gD D_X11_comeBack_0 4 rfl) rfl ?_
    refine v_iload_n X 2 rfl (gD D_X11_comeBack_0 5 rfl) rfl ?_
    refine v_callVi X (As := [.int x2]) (rest := []) (nA := 1) 0 0 k n (fun ht => c_X11_isLot htr (ht.sub [0] rfl) hw) (Or.inl rfl) 0 (κ := 12) rfl (by decide) (rfl : gCl[11]? = some (RX11, TX11, 19)) lk_vRX11_170 (by decide +kernel) rfl rfl (by decide) (by decide) (by decide) rfl rfl (gD D_X11_comeBack_0 6 rfl) (fun x54 s55 hq _ _ => ?_)
    replace hw := hq
    clear hq
    refine v_if_ne X 24 (gD D_X11_comeBack_0 7 rfl) (by decide) (fun c56 => ?_) (fun c56 => ?_)
    · replace hw := hw.1 c56
      refine v_iload_n X 3 rfl (gD D_X11_comeBack_0 12 rfl) rfl ?_
      refine v_iconst X 1 (gD D_X11_comeBack_0 13 rfl) (by decide) ?_
      refine v_bipush X 99 (gD D_X11_comeBack_0 14 rfl) (by decide) ?_
      refine v_callSi X (As := [.int x3, .int 1, .int 99]) (rest := []) (nA := 3) 0 0 k n (fun ht => c_X11_isWithin htr (ht.sub [] rfl) hw) (Or.inl rfl) lk_sRX11_86 (by decide +kernel) rfl rfl (by decide) (by decide) (by decide) rfl rfl (gD D_X11_comeBack_0 15 rfl) (fun x57 s58 hq _ _ => ?_)
      replace hw := hq
      clear hq
      refine v_if_ne X 42 (gD D_X11_comeBack_0 16 rfl) (by decide) (fun c59 => ?_) (fun c59 => ?_)
      · replace hw := hw.1 c59
        refine v_aload_n X 0 rfl (gD D_X11_comeBack_0 21 rfl) rfl ?_
        refine v_getR X RX11 TX11 19 12 11 (by decide) rfl gin11 11 1111 RX11 (Or.inl rfl) 0 2 rfl rfl rfl (by decide) lk_fRX11_65 (gD D_X11_comeBack_0 22 rfl) (fun o60 eo60 => ?_)
        replace hw := hw o60 eo60
        refine v_iload_n X 1 rfl (gD D_X11_comeBack_0 23 rfl) rfl ?_
        refine v_iload_n X 2 rfl (gD D_X11_comeBack_0 24 rfl) rfl ?_
        obtain ⟨a61, rfl, hw⟩ := hw
        refine v_callVi X (As := [.int x1, .int x2]) (rest := []) (nA := 2) 0 0 k n (fun ht => c_X1_at htr (ht.sub [0] rfl) hw) (Or.inl rfl) 0 (κ := 2) rfl (by decide) (rfl : gCl[1]? = some (RX1, TX1, 2)) lk_vRX11_176 (by decide +kernel) rfl rfl (by decide) (by decide) (by decide) rfl rfl (gD D_X11_comeBack_0 25 rfl) (fun x62 s63 hq _ _ => ?_)
        replace hw := hq
        clear hq
        refine v_iload_n X 3 rfl (gD D_X11_comeBack_0 26 rfl) rfl ?_
        refine v_icmp_ge X 63 (gD D_X11_comeBack_0 27 rfl) (by decide) (fun c64 => ?_) (fun c64 => ?_)
        · replace hw := hw.1 c64
          refine v_aload_n X 0 rfl (gD D_X11_comeBack_0 32 rfl) rfl ?_
          refine v_getR X RX11 TX11 19 12 11 (by decide) rfl gin11 11 1111 RX11 (Or.inl rfl) 1 2 rfl rfl rfl (by decide) lk_fRX11_65 (gD D_X11_comeBack_0 33 rfl) (fun o65 eo65 => ?_)
          replace hw := hw o65 eo65
          refine v_iload_n X 1 rfl (gD D_X11_comeBack_0 34 rfl) rfl ?_
          refine v_iload_n X 2 rfl (gD D_X11_comeBack_0 35 rfl) rfl ?_
          refine v_iload_n X 3 rfl (gD D_X11_comeBack_0 36 rfl) rfl ?_
          refine v_ineg X (gD D_X11_comeBack_0 37 rfl) ?_
          obtain ⟨a66, rfl, hw⟩ := hw
          refine v_callVv X (As := [.int x1, .int x2, .int (-x3)]) (rest := []) (nA := 3) 0 0 k n (fun ht => c_X1_add htr (ht.sub [0] rfl) hw) (Or.inl rfl) 0 (κ := 2) rfl (by decide) (rfl : gCl[1]? = some (RX1, TX1, 2)) lk_vRX11_202 (by decide +kernel) rfl rfl (by decide) (by decide) (by decide) rfl rfl (gD D_X11_comeBack_0 38 rfl) (fun s68 hq _ _ => ?_)
          replace hw := hq
          clear hq
          refine v_aload_n X 0 rfl (gD D_X11_comeBack_0 39 rfl) rfl ?_
          refine v_getR X RX11 TX11 19 12 11 (by decide) rfl gin11 9 1109 RX11 (Or.inl rfl) 2 1 rfl rfl rfl (by decide) lk_fRX11_52 (gD D_X11_comeBack_0 40 rfl) (fun o69 eo69 => ?_)
          replace hw := hw o69 eo69
          refine v_iconst X (-1) (gD D_X11_comeBack_0 41 rfl) (by decide) ?_
          refine v_bipush X 19 (gD D_X11_comeBack_0 42 rfl) (by decide) ?_
          refine v_aload_n X 0 rfl (gD D_X11_comeBack_0 43 rfl) rfl ?_
          refine v_getR X RX11 TX11 19 12 11 (by decide) rfl gin11 3 1103 RX11 (Or.inl rfl) 3 30 rfl rfl rfl (by decide) lk_fRX11_30 (gD D_X11_comeBack_0 44 rfl) (fun o70 eo70 => ?_)
          replace hw := hw o70 eo70
          refine v_iload_n X 2 rfl (gD D_X11_comeBack_0 45 rfl) rfl ?_
          obtain ⟨a71, rfl, hw⟩ := hw
          refine v_callVu X (As := [.int x2]) (rest := [.int 19, .int (-1), va_rf o69]) (nA := 1) 0 0 k n (fun ht => c_Jx4a65c_get_915e3 htr (ht.sub [0] rfl) hw) (Or.inl rfl) 0 (κ := 30) rfl (by decide) (rfl : gCl[13]? = some (RJx4a65c, TJx4a65c, 3)) lk_vRX11_153 (by decide +kernel) rfl rfl (by simp [rf_cat, ct_i]) (by decide) (by decide) rfl rfl (gD D_X11_comeBack_0 46 rfl) (fun o72 s73 hq _ _ => ?_)
          replace hw := hq
          clear hq
          obtain ⟨a74, rfl, hw⟩ := hw
          obtain ⟨h75, hw⟩ := hw
          refine v_cast X RX5 TX5 4 6 5 h75 (by decide) rfl lk_kRX11_148 (gD D_X11_comeBack_0 47 rfl) ?_
          refine v_iload_n X 3 rfl (gD D_X11_comeBack_0 48 rfl) rfl ?_
          obtain ⟨a76, rfl, hw⟩ := hw
          obtain ⟨k79, n80, k81, n82, h83, h84, hw⟩ := hw
          refine v_callVv X (As := [.int (-1), .int 19, va_rf (some a74), .int x3]) (rest := []) (nA := 4) k79 n80 k81 n82 (fun ht => c_X0_move htr (ht.sub [2, 0] rfl) hw) (Or.inl rfl) 2 (κ := 1) rfl (by decide) (rfl : gCl[0]? = some (RX0, TX0, 8)) lk_vRX11_205 (by decide +kernel) rfl rfl (by decide) (by decide) (by decide) h83 h84 (gD D_X11_comeBack_0 49 rfl) (fun s78 hq _ _ => ?_)
          replace hw := hq
          clear hq
          refine v_aload_n X 0 rfl (gD D_X11_comeBack_0 50 rfl) rfl ?_
          refine v_dup X (gD D_X11_comeBack_0 51 rfl) (rf_cat _) ?_
          refine v_getI X RX11 TX11 19 12 11 (by decide) rfl gin11 18 1118 RX11 (Or.inl rfl) 5 rfl rfl (by decide) lk_fRX11_209 (gD D_X11_comeBack_0 52 rfl) ?_
          refine v_iconst X 2 (gD D_X11_comeBack_0 53 rfl) (by decide) ?_
          refine v_iload_n X 3 rfl (gD D_X11_comeBack_0 54 rfl) rfl ?_
          refine v_imul X (gD D_X11_comeBack_0 55 rfl) ?_
          refine v_iadd X (gD D_X11_comeBack_0 56 rfl) ?_
          refine v_putI X RX11 TX11 19 12 11 (by decide) rfl gin11 18 1118 tyX11 tyX11_ok nmX11 RX11 (Or.inl rfl) 5 rfl .int (int_fit _) rfl (by decide) (Or.inl rfl) lk_fRX11_209 rfl rfl (gD D_X11_comeBack_0 57 rfl) (fun s85 es85 => ?_)
          replace hw := hw s85 es85
          refine v_aload_n X 0 rfl (gD D_X11_comeBack_0 58 rfl) rfl ?_
          refine v_getR X RX11 TX11 19 12 11 (by decide) rfl gin11 9 1109 RX11 (Or.inl rfl) 5 1 rfl rfl rfl (by decide) lk_fRX11_52 (gD D_X11_comeBack_0 59 rfl) (fun o86 eo86 => ?_)
          replace hw := hw o86 eo86
          obtain ⟨a87, rfl, hw⟩ := hw
          refine v_getR X RX0 TX0 8 1 0 (by decide) rfl gin0 0 0 RX0 (Or.inl rfl) 0 2 rfl rfl rfl (by decide) lk_fRX11_173 (gD D_X11_comeBack_0 60 rfl) (fun o88 eo88 => ?_)
          replace hw := hw o88 eo88
          refine v_bipush X 19 (gD D_X11_comeBack_0 61 rfl) (by decide) ?_
          refine v_iload_n X 2 rfl (gD D_X11_comeBack_0 62 rfl) rfl ?_
          obtain ⟨a89, rfl, hw⟩ := hw
          refine v_callVi X (As := [.int 19, .int x2]) (rest := []) (nA := 2) 0 0 k81 n82 (fun ht => c_X1_at htr (ht.sub [0] rfl) hw) (Or.inl rfl) 0 (κ := 2) rfl (by decide) (rfl : gCl[1]? = some (RX1, TX1, 2)) lk_vRX11_176 (by decide +kernel) rfl rfl (by decide) (by decide) (by decide) rfl rfl (gD D_X11_comeBack_0 63 rfl) (fun x90 s91 hq _ _ => ?_)
          replace hw := hq
          clear hq
          exact v_X (v_iret X hr hw (gD D_X11_comeBack_0 64 rfl))
        · replace hw := hw.2 c64
          exact v_throw X hex 3 (by decide +kernel) lk_xRX11_100 lk_xi_3 lk_xaRX11_102 lk_xgRX11_100_102 (gD D_X11_comeBack_0 28 rfl) (gD D_X11_comeBack_0 29 rfl) (gD D_X11_comeBack_0 30 rfl) (gD D_X11_comeBack_0 31 rfl) (by decide) hw
      · replace hw := hw.2 c59
        exact v_throw X hex 2 (by decide +kernel) lk_xRX11_90 lk_xi_2 lk_xaRX11_92 lk_xgRX11_90_92 (gD D_X11_comeBack_0 17 rfl) (gD D_X11_comeBack_0 18 rfl) (gD D_X11_comeBack_0 19 rfl) (gD D_X11_comeBack_0 20 rfl) (by decide) hw
    · replace hw := hw.2 c56
      exact v_throw X hex 1 (by decide +kernel) lk_xRX11_83 lk_xi_1 lk_xaRX11_85 lk_xgRX11_83_85 (gD D_X11_comeBack_0 8 rfl) (gD D_X11_comeBack_0 9 rfl) (gD D_X11_comeBack_0 10 rfl) (gD D_X11_comeBack_0 11 rfl) (by decide) hw
set_option maxRecDepth 100000 in
set_option maxHeartbeats 4000000 in
theorem c_X11_doing {l : Launch} {G : GX} (htr : l.stackTraces = false) {k n : Nat} {σ : St} {a0 : Nat} {x1 : Int32} {Q : Int32 → St → Prop} {Y : Nat → St → Prop} (ht : tvOk σ [(some a0, 12)]) (hw : w_X11_doing k n a0 x1 σ Q Y) : MIX l G 1 σ yX11_doing cX11_doing 3 (some .int) 4 k n [va_rf (some a0), .int x1] Q Y := by
  unfold w_X11_doing at hw
  refine m_startX RX11 (by decide) htr ht (Nat.le_of_ble_eq_true rfl) rfl (lv := [(0, va_rf (some a0)), (1, .int x1)]) (d := 1) (fun p e s m args below meth c X hr hin hex => ?_)
  refine v_iload_n X 1 rfl (gD D_X11_doing_0 0 rfl) rfl ?_
  refine v_callSi X (As := [.int x1]) (rest := []) (nA := 1) 0 0 k n (fun ht => c_X11_isRobot htr (ht.sub [] rfl) hw) (Or.inl rfl) lk_sRX11_273 (by decide +kernel) rfl rfl (by decide) (by decide) (by decide) rfl rfl (gD D_X11_doing_0 1 rfl) (fun x51 s52 hq _ _ => ?_)
  replace hw := hq
  clear hq
  refine v_if_ne X 15 (gD D_X11_doing_0 2 rfl) (by decide) (fun c53 => ?_) (fun c53 => ?_)
  · replace hw := hw.1 c53
    refine v_aload_n X 0 rfl (gD D_X11_doing_0 7 rfl) rfl ?_
    refine v_getR X RX11 TX11 19 12 11 (by decide) rfl gin11 2 1102 RX11 (Or.inl rfl) 0 26 rfl rfl rfl (by decide) lk_fRX11_23 (gD D_X11_doing_0 8 rfl) (fun o54 eo54 => ?_)
    replace hw := hw o54 eo54
    refine v_iload_n X 1 rfl (gD D_X11_doing_0 9 rfl) rfl ?_
    obtain ⟨a55, rfl, hw⟩ := hw
    obtain ⟨h56, hw⟩ := hw
    refine v_aald X 0 9 rfl (by decide) h56 (gD D_X11_doing_0 10 rfl) (fun o57 eo57 => ?_)
    replace hw := hw o57 eo57
    obtain ⟨a58, rfl, hw⟩ := hw
    refine v_callVq X (As := []) (rest := []) (nA := 0) 0 0 k n (fun ht => c_X8_firstTask htr (ht.sub [0] rfl) hw) (Or.inl rfl) (by decide) 0 (κ := 9) rfl (by decide) (rfl : gCl[8]? = some (RX8, TX8, 4)) lk_vRX11_314 (by decide +kernel) rfl rfl (by decide) (by decide) (by decide) rfl rfl (gD D_X11_doing_0 11 rfl) (fun o59 s60 hq _ _ => ?_)
    replace hw := hq
    clear hq
    refine v_astore_n X [(2, va_rf o59), (0, va_rf (some a0)), (1, .int x1)] (gD D_X11_doing_0 12 rfl) rfl (by decide) rfl ?_
    refine v_aload_n X 0 rfl (gD D_X11_doing_0 13 rfl) rfl ?_
    refine v_ifnonnull X 33 (gD D_X11_doing_0 14 rfl) (by decide) (fun a62 c61 => ?_) (fun c61 => ?_)
    · replace hw := hw.2 a62 c61
      subst c61
      refine v_aload_n X 0 rfl (gD D_X11_doing_0 17 rfl) rfl ?_
      refine v_getI X RX10 TX10 7 11 10 (by decide) rfl gin10 0 1000 RX10 (Or.inl rfl) 0 rfl rfl (by decide) lk_fRX11_318 (gD D_X11_doing_0 18 rfl) ?_
      exact v_X (v_iret X hr hw (gD D_X11_doing_0 19 rfl))
    · replace hw := hw.1 c61
      subst c61
      refine v_iconst X (-1) (gD D_X11_doing_0 15 rfl) (by decide) ?_
      refine v_goto X 37 (gD D_X11_doing_0 16 rfl) (by decide) ?_
      exact v_X (v_iret X hr hw (gD D_X11_doing_0 19 rfl))
  · replace hw := hw.2 c53
    exact v_throw X hex 1 (by decide +kernel) lk_xRX11_83 lk_xi_1 lk_xaRX11_85 lk_xgRX11_83_85 (gD D_X11_doing_0 3 rfl) (gD D_X11_doing_0 4 rfl) (gD D_X11_doing_0 5 rfl) (gD D_X11_doing_0 6 rfl) (by decide) hw
set_option maxRecDepth 100000 in
set_option maxHeartbeats 4000000 in
theorem c_X11_finish {l : Launch} {G : GX} (htr : l.stackTraces = false) {k n : Nat} {σ : St} {a0 : Nat} {a1 : Nat} {Q : St → Prop} (ht : tvOk σ [(some a0, 12), (some a1, 11)]) (hw : w_X11_finish k n a0 a1 σ Q) : MV l G 1 σ yX11_finish cX11_finish 3 4 k n [va_rf (some a0), va_rf (some a1)] Q := by
  unfold w_X11_finish at hw
  refine m_start RX11 (by decide) htr ht (Nat.le_of_ble_eq_true rfl) rfl (lv := [(0, va_rf (some a0)), (1, va_rf (some a1))]) (d := 1) (fun p e s m args below meth c X hr hin => ?_)
  refine v_aload_n X 1 rfl (gD D_X11_finish_0 0 rfl) rfl ?_
  refine v_getR X RX10 TX10 7 11 10 (by decide) rfl gin10 2 1002 RX10 (Or.inl rfl) 1 3 rfl rfl rfl (by decide) lk_fRX11_500 (gD D_X11_finish_0 1 rfl) (fun o51 eo51 => ?_)
  replace hw := hw o51 eo51
  refine v_astore_n X [(2, va_rf o51), (0, va_rf (some a0)), (1, va_rf (some a1))] (gD D_X11_finish_0 2 rfl) rfl (by decide) rfl ?_
  refine v_aload_n X 1 rfl (gD D_X11_finish_0 3 rfl) rfl ?_
  refine v_getR X RX11 TX11 19 12 11 (by decide) rfl gin11 9 1109 RX11 (Or.inl rfl) 1 1 rfl rfl rfl (by decide) lk_fRX11_52 (gD D_X11_finish_0 4 rfl) (fun o52 eo52 => ?_)
  replace hw := hw o52 eo52
  refine v_aload_n X 0 rfl (gD D_X11_finish_0 5 rfl) rfl ?_
  obtain ⟨a53, rfl, hw⟩ := hw
  refine v_getI X RX2 TX2 6 3 2 (by decide) rfl gin2 2 202 RX2 (Or.inl rfl) 1 rfl rfl (by decide) lk_fRX11_407 (gD D_X11_finish_0 6 rfl) ?_
  refine v_aload_n X 2 rfl (gD D_X11_finish_0 7 rfl) rfl ?_
  refine v_getI X RX10 TX10 7 11 10 (by decide) rfl gin10 3 1003 RX10 (Or.inl rfl) 3 rfl rfl (by decide) lk_fRX11_422 (gD D_X11_finish_0 8 rfl) ?_
  refine v_aload_n X 0 rfl (gD D_X11_finish_0 9 rfl) rfl ?_
  refine v_getR X RX2 TX2 6 3 2 (by decide) rfl gin2 3 203 RX2 (Or.inl rfl) 1 6 rfl rfl rfl (by decide) lk_fRX11_410 (gD D_X11_finish_0 10 rfl) (fun o54 eo54 => ?_)
  replace hw := hw o54 eo54
  refine v_aload_n X 2 rfl (gD D_X11_finish_0 11 rfl) rfl ?_
  refine v_getI X RX10 TX10 7 11 10 (by decide) rfl gin10 4 1004 RX10 (Or.inl rfl) 4 rfl rfl (by decide) lk_fRX11_322 (gD D_X11_finish_0 12 rfl) ?_
  obtain ⟨a55, rfl, hw⟩ := hw
  obtain ⟨a56, rfl, hw⟩ := hw
  obtain ⟨k59, n60, k61, n62, h63, h64, hw⟩ := hw
  refine v_callVv X (As := [.int (sI σ 202 a53), .int (sI σ 1003 a1), va_rf (some a55), .int (sI σ 1004 a1)]) (rest := []) (nA := 4) k59 n60 k61 n62 (fun ht => c_X0_move htr (ht.sub [1, 0] rfl) hw) (Or.inl rfl) 1 (κ := 1) rfl (by decide) (rfl : gCl[0]? = some (RX0, TX0, 8)) lk_vRX11_205 (by decide +kernel) rfl rfl (by decide) (by decide) (by decide) h63 h64 (gD D_X11_finish_0 13 rfl) (fun s58 hq _ _ => ?_)
  replace hw := hq
  clear hq
  refine v_aload_n X 1 rfl (gD D_X11_finish_0 14 rfl) rfl ?_
  refine v_aload_n X 0 rfl (gD D_X11_finish_0 15 rfl) rfl ?_
  refine v_aload_n X 0 rfl (gD D_X11_finish_0 16 rfl) rfl ?_
  refine v_getI X RX2 TX2 6 3 2 (by decide) rfl gin2 4 204 RX2 (Or.inl rfl) 2 rfl rfl (by decide) lk_fRX11_271 (gD D_X11_finish_0 17 rfl) ?_
  refine v_callVv X (As := [va_rf (some a53), .int (sI s58 204 a53)]) (rest := []) (nA := 2) 0 0 k61 n62 (fun ht => c_X11_release htr (ht.sub [3, 2] rfl) hw) (Or.inl rfl) 3 (κ := 12) rfl (by decide) (rfl : gCl[11]? = some (RX11, TX11, 19)) lk_vRX11_432 (by decide +kernel) rfl rfl (by decide) (by decide) (by decide) rfl rfl (gD D_X11_finish_0 18 rfl) (fun s66 hq _ _ => ?_)
  replace hw := hq
  clear hq
  refine v_aload_n X 1 rfl (gD D_X11_finish_0 19 rfl) rfl ?_
  refine v_callVv X (As := []) (rest := []) (nA := 0) 0 0 k61 n62 (fun ht => c_X11_dropEmptyHoldings htr (ht.sub [3] rfl) hw) (Or.inl rfl) 3 (κ := 12) rfl (by decide) (rfl : gCl[11]? = some (RX11, TX11, 19)) lk_vRX11_436 (by decide +kernel) rfl rfl (by decide) (by decide) (by decide) rfl rfl (gD D_X11_finish_0 20 rfl) (fun s68 hq _ _ => ?_)
  replace hw := hq
  clear hq
  refine v_aload_n X 2 rfl (gD D_X11_finish_0 21 rfl) rfl ?_
  refine v_iconst X 2 (gD D_X11_finish_0 22 rfl) (by decide) ?_
  refine v_putI X RX10 TX10 7 11 10 (by decide) rfl gin10 5 1005 tyX10 tyX10_ok nmX10 RX10 (Or.inl rfl) 4 rfl .int (int_fit _) rfl (by decide) (Or.inl rfl) lk_fRX11_292 rfl rfl (gD D_X11_finish_0 23 rfl) (fun s69 es69 => ?_)
  replace hw := hw s69 es69
  refine v_aload_n X 2 rfl (gD D_X11_finish_0 24 rfl) rfl ?_
  refine v_getI X RX10 TX10 7 11 10 (by decide) rfl gin10 1 1001 RX10 (Or.inl rfl) 4 rfl rfl (by decide) lk_fRX11_319 (gD D_X11_finish_0 25 rfl) ?_
  refine v_if_ne X 66 (gD D_X11_finish_0 26 rfl) (by decide) (fun c70 => ?_) (fun c70 => ?_)
  · replace hw := hw.1 c70
    refine v_aload_n X 2 rfl (gD D_X11_finish_0 34 rfl) rfl ?_
    refine v_getI X RX10 TX10 7 11 10 (by decide) rfl gin10 1 1001 RX10 (Or.inl rfl) 4 rfl rfl (by decide) lk_fRX11_319 (gD D_X11_finish_0 35 rfl) ?_
    refine v_iconst X 1 (gD D_X11_finish_0 36 rfl) (by decide) ?_
    refine v_icmp_ne X 87 (gD D_X11_finish_0 37 rfl) (by decide) (fun c71 => ?_) (fun c71 => ?_)
    · replace hw := hw.1 c71
      refine v_aload_n X 1 rfl (gD D_X11_finish_0 45 rfl) rfl ?_
      refine v_dup X (gD D_X11_finish_0 46 rfl) (rf_cat _) ?_
      refine v_getI X RX11 TX11 19 12 11 (by decide) rfl gin11 18 1118 RX11 (Or.inl rfl) 3 rfl rfl (by decide) lk_fRX11_209 (gD D_X11_finish_0 47 rfl) ?_
      refine v_iconst X 1 (gD D_X11_finish_0 48 rfl) (by decide) ?_
      refine v_aload_n X 2 rfl (gD D_X11_finish_0 49 rfl) rfl ?_
      refine v_getI X RX10 TX10 7 11 10 (by decide) rfl gin10 4 1004 RX10 (Or.inl rfl) 4 rfl rfl (by decide) lk_fRX11_322 (gD D_X11_finish_0 50 rfl) ?_
      refine v_imul X (gD D_X11_finish_0 51 rfl) ?_
      refine v_iadd X (gD D_X11_finish_0 52 rfl) ?_
      refine v_putI X RX11 TX11 19 12 11 (by decide) rfl gin11 18 1118 tyX11 tyX11_ok nmX11 RX11 (Or.inl rfl) 3 rfl .int (int_fit _) rfl (by decide) (Or.inl rfl) lk_fRX11_209 rfl rfl (gD D_X11_finish_0 53 rfl) (fun s72 es72 => ?_)
      replace hw := hw s72 es72
      refine v_aload_n X 0 rfl (gD D_X11_finish_0 54 rfl) rfl ?_
      refine v_getR X RX2 TX2 6 3 2 (by decide) rfl gin2 1 201 RX2 (Or.inl rfl) 2 5 rfl rfl rfl (by decide) lk_fRX11_414 (gD D_X11_finish_0 55 rfl) (fun o73 eo73 => ?_)
      replace hw := hw o73 eo73
      refine v_ifnull X 125 (gD D_X11_finish_0 56 rfl) (by decide) (fun c74 => ?_) (fun a75 c74 => ?_)
      · replace hw := hw.1 c74
        subst c74
        exact v_vret X hr hw (gD D_X11_finish_0 65 rfl)
      · replace hw := hw.2 a75 c74
        subst c74
        refine v_aload_n X 0 rfl (gD D_X11_finish_0 57 rfl) rfl ?_
        refine v_getR X RX2 TX2 6 3 2 (by decide) rfl gin2 1 201 RX2 (Or.inl rfl) 3 5 rfl rfl rfl (by decide) lk_fRX11_414 (gD D_X11_finish_0 58 rfl) (fun o76 eo76 => ?_)
        replace hw := hw o76 eo76
        refine v_dup X (gD D_X11_finish_0 59 rfl) (rf_cat _) ?_
        obtain ⟨a77, rfl, hw⟩ := hw
        refine v_getI X RX4 TX4 4 5 4 (by decide) rfl gin4 3 403 RX4 (Or.inl rfl) 0 rfl rfl (by decide) lk_fRX11_507 (gD D_X11_finish_0 60 rfl) ?_
        refine v_aload_n X 2 rfl (gD D_X11_finish_0 61 rfl) rfl ?_
        refine v_getI X RX10 TX10 7 11 10 (by decide) rfl gin10 4 1004 RX10 (Or.inl rfl) 6 rfl rfl (by decide) lk_fRX11_322 (gD D_X11_finish_0 62 rfl) ?_
        refine v_iadd X (gD D_X11_finish_0 63 rfl) ?_
        refine v_putI X RX4 TX4 4 5 4 (by decide) rfl gin4 3 403 tyX4 tyX4_ok nmX4 RX4 (Or.inl rfl) 0 rfl .int (int_fit _) rfl (by decide) (Or.inl rfl) lk_fRX11_507 rfl rfl (gD D_X11_finish_0 64 rfl) (fun s78 es78 => ?_)
        replace hw := hw s78 es78
        exact v_vret X hr hw (gD D_X11_finish_0 65 rfl)
    · replace hw := hw.2 c71
      refine v_aload_n X 1 rfl (gD D_X11_finish_0 38 rfl) rfl ?_
      refine v_dup X (gD D_X11_finish_0 39 rfl) (rf_cat _) ?_
      refine v_getI X RX11 TX11 19 12 11 (by decide) rfl gin11 18 1118 RX11 (Or.inl rfl) 3 rfl rfl (by decide) lk_fRX11_209 (gD D_X11_finish_0 40 rfl) ?_
      refine v_iconst X 4 (gD D_X11_finish_0 41 rfl) (by decide) ?_
      refine v_iadd X (gD D_X11_finish_0 42 rfl) ?_
      refine v_putI X RX11 TX11 19 12 11 (by decide) rfl gin11 18 1118 tyX11 tyX11_ok nmX11 RX11 (Or.inl rfl) 3 rfl .int (int_fit _) rfl (by decide) (Or.inl rfl) lk_fRX11_209 rfl rfl (gD D_X11_finish_0 43 rfl) (fun s79 es79 => ?_)
      replace hw := hw s79 es79
      refine v_goto X 125 (gD D_X11_finish_0 44 rfl) (by decide) ?_
      exact v_vret X hr hw (gD D_X11_finish_0 65 rfl)
  · replace hw := hw.2 c70
    refine v_aload_n X 1 rfl (gD D_X11_finish_0 27 rfl) rfl ?_
    refine v_dup X (gD D_X11_finish_0 28 rfl) (rf_cat _) ?_
    refine v_getI X RX11 TX11 19 12 11 (by decide) rfl gin11 18 1118 RX11 (Or.inl rfl) 3 rfl rfl (by decide) lk_fRX11_209 (gD D_X11_finish_0 29 rfl) ?_
    refine v_iconst X 3 (gD D_X11_finish_0 30 rfl) (by decide) ?_
    refine v_iadd X (gD D_X11_finish_0 31 rfl) ?_
    refine v_putI X RX11 TX11 19 12 11 (by decide) rfl gin11 18 1118 tyX11 tyX11_ok nmX11 RX11 (Or.inl rfl) 3 rfl .int (int_fit _) rfl (by decide) (Or.inl rfl) lk_fRX11_209 rfl rfl (gD D_X11_finish_0 32 rfl) (fun s80 es80 => ?_)
    replace hw := hw s80 es80
    refine v_goto X 125 (gD D_X11_finish_0 33 rfl) (by decide) ?_
    exact v_vret X hr hw (gD D_X11_finish_0 65 rfl)
set_option maxRecDepth 100000 in
set_option maxHeartbeats 4000000 in
theorem t_X11_init_230 {p : Program} {l : Launch} {e : Env} {s : State} {m : MethodId} {args : Array Value} {below : List Frame} {meth : Method} {c : Code} {G : GX} {σ0 : St} {mc ms : Nat} {Q : St → Prop} (X : VC p l (rmD 4 mc ms) s m args meth c G 4 mc ms 2 RX11 cX11_init) (hr : meth.sig.returnType = none) (hin : meth.name = yX11_init.name) (htr : l.stackTraces = false) : ∀ (f : Nat) (a0 : Nat) (x1 : Int32) (σ : St) (k n : Nat), w_X11_init_230 Q  f a0 x1 σ k n → V p l e (rmD 4 mc ms) s m args below meth c (MQ below (va_Qv Q (gB G 1 σ0) (GA G)) args s mc ms (GA G)) G 1 σ0 mc ms 2 σ k n [(some a0, 12)] 230 [(0, va_rf (some a0)), (1, .int x1)] [] := by
  intro f
  induction f with
  | zero => intro a0 x1 σ k n hw; exact hw.elim
  | succ f ih =>
    intro a0 x1 σ k n hw
    unfold w_X11_init_230 at hw
    refine v_iload_n X 1 rfl (gD D_X11_init_1 12 rfl) rfl ?_
    refine v_aload_n X 0 rfl (gD D_X11_init_1 13 rfl) rfl ?_
    refine v_getR X RX11 TX11 19 12 11 (by decide) rfl gin11 2 1102 RX11 (Or.inl rfl) 0 26 rfl rfl rfl (by decide) lk_fRX11_23 (gD D_X11_init_1 14 rfl) (fun o213 eo213 => ?_)
    replace hw := hw o213 eo213
    obtain ⟨a214, rfl, hw⟩ := hw
    refine v_alen X 0 rfl (by decide) (gD D_X11_init_1 15 rfl) ?_
    refine v_icmp_ge X 258 (gD D_X11_init_1 16 rfl) (by decide) (fun c215 => ?_) (fun c215 => ?_)
    · replace hw := hw.1 c215
      exact v_vret X hr hw (gD D_X11_init_1 26 rfl)
    · replace hw := hw.2 c215
      refine v_aload_n X 0 rfl (gD D_X11_init_1 17 rfl) rfl ?_
      refine v_getR X RX11 TX11 19 12 11 (by decide) rfl gin11 2 1102 RX11 (Or.inl rfl) 1 26 rfl rfl rfl (by decide) lk_fRX11_23 (gD D_X11_init_1 18 rfl) (fun o216 eo216 => ?_)
      replace hw := hw o216 eo216
      refine v_iload_n X 1 rfl (gD D_X11_init_1 19 rfl) rfl ?_
      obtain ⟨k217, n218, h219, h220, hw⟩ := hw
      refine v_new X RX8 TX8 4 9 8 (by decide) rfl gin8 tyX8 tyX8_ok lk_kRX11_21 lk_tX8 lk_n_RX8 dfl_X8 k217 n218 h219 h220 (gD D_X11_init_1 20 rfl) (fun a221 s222 ha221 es222 => ?_)
      replace hw := hw a221 s222 ha221 es222
      refine v_dup X (gD D_X11_init_1 21 rfl) (rf_cat _) ?_
      obtain ⟨k225, n226, k227, n228, h229, h230, hw⟩ := hw
      refine v_callNv X (As := []) (rest := [va_rf (some a221), .int x1, va_rf o216]) (nA := 0) k225 n226 k227 n228 (fun ht => c_X8_init htr (ht.sub [0] rfl) hw) (Or.inl rfl) (host := RX11) lk_c_X8_init lk_n_RX8 (List.mem_of_getElem? (i := 2) rfl) lk_i_X8_init rfl (by decide +kernel) rfl rfl (by simp [rf_cat, ct_i]) (by decide) (by decide) h229 h230 (gD D_X11_init_1 22 rfl) (fun s224 hq _ _ => ?_)
      replace hw := hq
      clear hq
      obtain ⟨a231, rfl, hw⟩ := hw
      obtain ⟨h232, hw⟩ := hw
      refine v_aast X 1 0 (r := (RX8, TX8, 4)) rfl rfl ⟨by decide, by unfold okE; decide⟩ rfl (ci := 8) (by decide) rfl (Or.inl rfl) h232 (gD D_X11_init_1 23 rfl) (fun s233 es233 => ?_)
      replace hw := hw s233 es233
      refine v_iinc X (x1 + 1) 1 rfl [(1, .int (x1 + 1)), (0, va_rf (some a0))] (gD D_X11_init_1 24 rfl) rfl (by decide) rfl ?_
      refine v_goto X 230 (gD D_X11_init_1 25 rfl) (by decide) ?_
      exact v_sub [3] [1, 0] rfl rfl (ih a0 (x1 + 1) s233 k227 n228 hw)
set_option maxRecDepth 100000 in
set_option maxHeartbeats 4000000 in
theorem t_X11_init_199 {p : Program} {l : Launch} {e : Env} {s : State} {m : MethodId} {args : Array Value} {below : List Frame} {meth : Method} {c : Code} {G : GX} {σ0 : St} {mc ms : Nat} {Q : St → Prop} (X : VC p l (rmD 4 mc ms) s m args meth c G 4 mc ms 2 RX11 cX11_init) (hr : meth.sig.returnType = none) (hin : meth.name = yX11_init.name) (htr : l.stackTraces = false) : ∀ (f : Nat) (a0 : Nat) (x1 : Int32) (σ : St) (k n : Nat), w_X11_init_199 Q  f a0 x1 σ k n → V p l e (rmD 4 mc ms) s m args below meth c (MQ below (va_Qv Q (gB G 1 σ0) (GA G)) args s mc ms (GA G)) G 1 σ0 mc ms 2 σ k n [(some a0, 12)] 199 [(0, va_rf (some a0)), (1, .int x1)] [] := by
  intro f
  induction f with
  | zero => intro a0 x1 σ k n hw; exact hw.elim
  | succ f ih =>
    intro a0 x1 σ k n hw
    unfold w_X11_init_199 at hw
    refine v_iload_n X 1 rfl (gD D_X11_init_0 95 rfl) rfl ?_
    refine v_aload_n X 0 rfl (gD D_X11_init_0 96 rfl) rfl ?_
    refine v_getR X RX11 TX11 19 12 11 (by decide) rfl gin11 1 1101 RX11 (Or.inl rfl) 0 25 rfl rfl rfl (by decide) lk_fRX11_17 (gD D_X11_init_0 97 rfl) (fun o210 eo210 => ?_)
    replace hw := hw o210 eo210
    obtain ⟨a211, rfl, hw⟩ := hw
    refine v_alen X 0 rfl (by decide) (gD D_X11_init_0 98 rfl) ?_
    refine v_icmp_ge X 228 (gD D_X11_init_0 99 rfl) (by decide) (fun c212 => ?_) (fun c212 => ?_)
    · replace hw := hw.1 c212
      refine v_iconst X 0 (gD D_X11_init_1 10 rfl) (by decide) ?_
      refine v_istore_n X [(1, .int 0), (0, va_rf (some a0))] (gD D_X11_init_1 11 rfl) rfl (by decide) rfl ?_
      obtain ⟨f234, hw⟩ := hw
      exact v_sub [1] [1, 0] rfl rfl (t_X11_init_230 X hr hin htr  f234 a0 0 σ k n hw)
    · replace hw := hw.2 c212
      refine v_aload_n X 0 rfl (gD D_X11_init_1 0 rfl) rfl ?_
      refine v_getR X RX11 TX11 19 12 11 (by decide) rfl gin11 1 1101 RX11 (Or.inl rfl) 1 25 rfl rfl rfl (by decide) lk_fRX11_17 (gD D_X11_init_1 1 rfl) (fun o235 eo235 => ?_)
      replace hw := hw o235 eo235
      refine v_iload_n X 1 rfl (gD D_X11_init_1 2 rfl) rfl ?_
      obtain ⟨k236, n237, h238, h239, hw⟩ := hw
      refine v_new X RX3 TX3 6 4 3 (by decide) rfl gin3 tyX3 tyX3_ok lk_kRX11_15 lk_tX3 lk_n_RX3 dfl_X3 k236 n237 h238 h239 (gD D_X11_init_1 3 rfl) (fun a240 s241 ha240 es241 => ?_)
      replace hw := hw a240 s241 ha240 es241
      refine v_dup X (gD D_X11_init_1 4 rfl) (rf_cat _) ?_
      refine v_iload_n X 1 rfl (gD D_X11_init_1 5 rfl) rfl ?_
      refine v_callIv X (As := [.int x1]) (rest := [va_rf (some a240), .int x1, va_rf o235]) (nA := 1) 0 0 k236 n237 (fun ht => c_X3_init htr (ht.sub [0] rfl) hw) (Or.inl rfl) lk_c_X3_init lk_n_RX3 lk_mRX11_75 lk_i_X3_init rfl (by decide +kernel) rfl rfl (by simp [rf_cat, ct_i]) (by decide) (by decide) rfl rfl (gD D_X11_init_1 6 rfl) (fun s243 hq _ _ => ?_)
      replace hw := hq
      clear hq
      obtain ⟨a244, rfl, hw⟩ := hw
      obtain ⟨h245, hw⟩ := hw
      refine v_aast X 1 0 (r := (RX3, TX3, 6)) rfl rfl ⟨by decide, by unfold okE; decide⟩ rfl (ci := 3) (by decide) rfl (Or.inl rfl) h245 (gD D_X11_init_1 7 rfl) (fun s246 es246 => ?_)
      replace hw := hw s246 es246
      refine v_iinc X (x1 + 1) 1 rfl [(1, .int (x1 + 1)), (0, va_rf (some a0))] (gD D_X11_init_1 8 rfl) rfl (by decide) rfl ?_
      refine v_goto X 199 (gD D_X11_init_1 9 rfl) (by decide) ?_
      exact v_sub [3] [1, 0] rfl rfl (ih a0 (x1 + 1) s246 k236 n237 hw)
set_option maxRecDepth 100000 in
set_option maxHeartbeats 4000000 in
theorem t_X11_init_169 {p : Program} {l : Launch} {e : Env} {s : State} {m : MethodId} {args : Array Value} {below : List Frame} {meth : Method} {c : Code} {G : GX} {σ0 : St} {mc ms : Nat} {Q : St → Prop} (X : VC p l (rmD 4 mc ms) s m args meth c G 4 mc ms 2 RX11 cX11_init) (hr : meth.sig.returnType = none) (hin : meth.name = yX11_init.name) (htr : l.stackTraces = false) : ∀ (f : Nat) (a0 : Nat) (x1 : Int32) (σ : St) (k n : Nat), w_X11_init_169 Q  f a0 x1 σ k n → V p l e (rmD 4 mc ms) s m args below meth c (MQ below (va_Qv Q (gB G 1 σ0) (GA G)) args s mc ms (GA G)) G 1 σ0 mc ms 2 σ k n [(some a0, 12)] 169 [(0, va_rf (some a0)), (1, .int x1)] [] := by
  intro f
  induction f with
  | zero => intro a0 x1 σ k n hw; exact hw.elim
  | succ f ih =>
    intro a0 x1 σ k n hw
    unfold w_X11_init_169 at hw
    refine v_iload_n X 1 rfl (gD D_X11_init_0 79 rfl) rfl ?_
    refine v_aload_n X 0 rfl (gD D_X11_init_0 80 rfl) rfl ?_
    refine v_getR X RX11 TX11 19 12 11 (by decide) rfl gin11 0 1100 RX11 (Or.inl rfl) 0 24 rfl rfl rfl (by decide) lk_fRX11_11 (gD D_X11_init_0 81 rfl) (fun o207 eo207 => ?_)
    replace hw := hw o207 eo207
    obtain ⟨a208, rfl, hw⟩ := hw
    refine v_alen X 0 rfl (by decide) (gD D_X11_init_0 82 rfl) ?_
    refine v_icmp_ge X 197 (gD D_X11_init_0 83 rfl) (by decide) (fun c209 => ?_) (fun c209 => ?_)
    · replace hw := hw.1 c209
      refine v_iconst X 0 (gD D_X11_init_0 93 rfl) (by decide) ?_
      refine v_istore_n X [(1, .int 0), (0, va_rf (some a0))] (gD D_X11_init_0 94 rfl) rfl (by decide) rfl ?_
      obtain ⟨f247, hw⟩ := hw
      exact v_sub [1] [1, 0] rfl rfl (t_X11_init_199 X hr hin htr  f247 a0 0 σ k n hw)
    · replace hw := hw.2 c209
      refine v_aload_n X 0 rfl (gD D_X11_init_0 84 rfl) rfl ?_
      refine v_getR X RX11 TX11 19 12 11 (by decide) rfl gin11 0 1100 RX11 (Or.inl rfl) 1 24 rfl rfl rfl (by decide) lk_fRX11_11 (gD D_X11_init_0 85 rfl) (fun o248 eo248 => ?_)
      replace hw := hw o248 eo248
      refine v_iload_n X 1 rfl (gD D_X11_init_0 86 rfl) rfl ?_
      obtain ⟨k249, n250, h251, h252, hw⟩ := hw
      refine v_new X RX9 TX9 5 10 9 (by decide) rfl gin9 tyX9 tyX9_ok lk_kRX11_9 lk_tX9 lk_n_RX9 dfl_X9 k249 n250 h251 h252 (gD D_X11_init_0 87 rfl) (fun a253 s254 ha253 es254 => ?_)
      replace hw := hw a253 s254 ha253 es254
      refine v_dup X (gD D_X11_init_0 88 rfl) (rf_cat _) ?_
      refine v_callNv X (As := []) (rest := [va_rf (some a253), .int x1, va_rf o248]) (nA := 0) 0 0 k249 n250 (fun ht => c_X9_init htr (ht.sub [0] rfl) hw) (Or.inl rfl) (host := RX11) lk_c_X9_init lk_n_RX9 (List.mem_of_getElem? (i := 1) rfl) lk_i_X9_init rfl (by decide +kernel) rfl rfl (by simp [rf_cat, ct_i]) (by decide) (by decide) rfl rfl (gD D_X11_init_0 89 rfl) (fun s256 hq _ _ => ?_)
      replace hw := hq
      clear hq
      obtain ⟨a257, rfl, hw⟩ := hw
      obtain ⟨h258, hw⟩ := hw
      refine v_aast X 1 0 (r := (RX9, TX9, 5)) rfl rfl ⟨by decide, by unfold okE; decide⟩ rfl (ci := 9) (by decide) rfl (Or.inl rfl) h258 (gD D_X11_init_0 90 rfl) (fun s259 es259 => ?_)
      replace hw := hw s259 es259
      refine v_iinc X (x1 + 1) 1 rfl [(1, .int (x1 + 1)), (0, va_rf (some a0))] (gD D_X11_init_0 91 rfl) rfl (by decide) rfl ?_
      refine v_goto X 169 (gD D_X11_init_0 92 rfl) (by decide) ?_
      exact v_sub [3] [1, 0] rfl rfl (ih a0 (x1 + 1) s259 k249 n250 hw)
set_option maxRecDepth 100000 in
set_option maxHeartbeats 4000000 in
theorem c_X11_init {l : Launch} {G : GX} (htr : l.stackTraces = false) {k n : Nat} {σ : St} {a0 : Nat} {Q : St → Prop} (ht : tvOk σ [(some a0, 12)]) (hw : w_X11_init k n a0 σ Q) : MV l G 1 σ yX11_init cX11_init 2 4 k n [va_rf (some a0)] Q := by
  unfold w_X11_init at hw
  refine m_start RX11 (by decide) htr ht (Nat.le_of_ble_eq_true rfl) rfl (lv := [(0, va_rf (some a0))]) (d := 1) (fun p e s m args below meth c X hr hin => ?_)
  refine v_aload_n X 0 rfl (gD D_X11_init_0 0 rfl) rfl ?_
  refine v_objInit X lk_mRX11_3 lk_i_objinit lk_c_objinit (by decide) (gD D_X11_init_0 1 rfl) ?_
  refine v_aload_n X 0 rfl (gD D_X11_init_0 2 rfl) rfl ?_
  refine v_bipush X 18 (gD D_X11_init_0 3 rfl) (by decide) ?_
  obtain ⟨h51, h52, hw⟩ := hw
  obtain ⟨k53, n54, h55, h56, hw⟩ := hw
  refine v_newQ X (C := RX9) 24 (by decide) rfl (List.mem_of_getElem? (i := 0) rfl) lk_kRX11_9 h51 h52 k53 n54 h55 h56 (gD D_X11_init_0 4 rfl) (fun a57 s58 ha57 es58 => ?_)
  replace hw := hw a57 s58 ha57 es58
  refine v_putRF X RX11 TX11 19 12 11 (by decide) rfl gin11 0 1100 tyX11 tyX11_ok nmX11 RX11 (Or.inl rfl) 1 rfl (fun b hb => ⟨0, by rw [← hb]; rfl⟩) rfl (by decide) (Or.inl rfl) lk_fRX11_11 rfl hin rfl rfl rfl (gD D_X11_init_0 5 rfl) (fun s59 es59 => ?_)
  replace hw := hw s59 es59
  refine v_aload_n X 0 rfl (gD D_X11_init_0 6 rfl) rfl ?_
  refine v_bipush X 6 (gD D_X11_init_0 7 rfl) (by decide) ?_
  obtain ⟨h60, h61, hw⟩ := hw
  obtain ⟨k62, n63, h64, h65, hw⟩ := hw
  refine v_newQ X (C := RX3) 25 (by decide) rfl (List.mem_of_getElem? (i := 1) rfl) lk_kRX11_15 h60 h61 k62 n63 h64 h65 (gD D_X11_init_0 8 rfl) (fun a66 s67 ha66 es67 => ?_)
  replace hw := hw a66 s67 ha66 es67
  refine v_putRF X RX11 TX11 19 12 11 (by decide) rfl gin11 1 1101 tyX11 tyX11_ok nmX11 RX11 (Or.inl rfl) 2 rfl (fun b hb => ⟨0, by rw [← hb]; rfl⟩) rfl (by decide) (Or.inl rfl) lk_fRX11_17 rfl hin rfl rfl rfl (gD D_X11_init_0 9 rfl) (fun s68 es68 => ?_)
  replace hw := hw s68 es68
  refine v_aload_n X 0 rfl (gD D_X11_init_0 10 rfl) rfl ?_
  refine v_iconst X 3 (gD D_X11_init_0 11 rfl) (by decide) ?_
  obtain ⟨h69, h70, hw⟩ := hw
  obtain ⟨k71, n72, h73, h74, hw⟩ := hw
  refine v_newQ X (C := RX8) 26 (by decide) rfl (List.mem_of_getElem? (i := 2) rfl) lk_kRX11_21 h69 h70 k71 n72 h73 h74 (gD D_X11_init_0 12 rfl) (fun a75 s76 ha75 es76 => ?_)
  replace hw := hw a75 s76 ha75 es76
  refine v_putRF X RX11 TX11 19 12 11 (by decide) rfl gin11 2 1102 tyX11 tyX11_ok nmX11 RX11 (Or.inl rfl) 3 rfl (fun b hb => ⟨0, by rw [← hb]; rfl⟩) rfl (by decide) (Or.inl rfl) lk_fRX11_23 rfl hin rfl rfl rfl (gD D_X11_init_0 13 rfl) (fun s77 es77 => ?_)
  replace hw := hw s77 es77
  refine v_aload_n X 0 rfl (gD D_X11_init_0 14 rfl) rfl ?_
  obtain ⟨k78, n79, h80, h81, hw⟩ := hw
  refine v_new X RJx4a65c TJx4a65c 3 30 13 (by decide) rfl gin13 tyJx4a65c tyJx4a65c_ok lk_kRX11_27 lk_tJx4a65c lk_n_RJx4a65c dfl_Jx4a65c k78 n79 h80 h81 (gD D_X11_init_0 15 rfl) (fun a82 s83 ha82 es83 => ?_)
  replace hw := hw a82 s83 ha82 es83
  refine v_dup X (gD D_X11_init_0 16 rfl) (rf_cat _) ?_
  refine v_callIv X (As := []) (rest := [va_rf (some a82), va_rf (some a0)]) (nA := 0) 0 0 k78 n79 (fun ht => c_Jx4a65c_init_da8c8 htr (ht.sub [0] rfl) hw) (Or.inl rfl) lk_c_Jx4a65c_init_da8c8 lk_n_RJx4a65c lk_mRX11_29 lk_i_Jx4a65c_init_da8c8 rfl (by decide +kernel) rfl rfl (by simp [rf_cat, ct_i]) (by decide) (by decide) rfl rfl (gD D_X11_init_0 17 rfl) (fun s85 hq _ _ => ?_)
  replace hw := hq
  clear hq
  refine v_putRF X RX11 TX11 19 12 11 (by decide) rfl gin11 3 1103 tyX11 tyX11_ok nmX11 RX11 (Or.inl rfl) 4 rfl (fun b hb => ⟨0, by rw [← hb]; rfl⟩) rfl (by decide) (Or.inl rfl) lk_fRX11_30 rfl hin rfl rfl rfl (gD D_X11_init_0 18 rfl) (fun s86 es86 => ?_)
  replace hw := hw s86 es86
  refine v_aload_n X 0 rfl (gD D_X11_init_0 19 rfl) rfl ?_
  obtain ⟨k87, n88, h89, h90, hw⟩ := hw
  refine v_new X RJx4a65c TJx4a65c 3 30 13 (by decide) rfl gin13 tyJx4a65c tyJx4a65c_ok lk_kRX11_27 lk_tJx4a65c lk_n_RJx4a65c dfl_Jx4a65c k87 n88 h89 h90 (gD D_X11_init_0 20 rfl) (fun a91 s92 ha91 es92 => ?_)
  replace hw := hw a91 s92 ha91 es92
  refine v_dup X (gD D_X11_init_0 21 rfl) (rf_cat _) ?_
  refine v_callIv X (As := []) (rest := [va_rf (some a91), va_rf (some a0)]) (nA := 0) 0 0 k87 n88 (fun ht => c_Jx4a65c_init_da8c8 htr (ht.sub [0] rfl) hw) (Or.inl rfl) lk_c_Jx4a65c_init_da8c8 lk_n_RJx4a65c lk_mRX11_29 lk_i_Jx4a65c_init_da8c8 rfl (by decide +kernel) rfl rfl (by simp [rf_cat, ct_i]) (by decide) (by decide) rfl rfl (gD D_X11_init_0 22 rfl) (fun s94 hq _ _ => ?_)
  replace hw := hq
  clear hq
  refine v_putRF X RX11 TX11 19 12 11 (by decide) rfl gin11 4 1104 tyX11 tyX11_ok nmX11 RX11 (Or.inl rfl) 5 rfl (fun b hb => ⟨0, by rw [← hb]; rfl⟩) rfl (by decide) (Or.inl rfl) lk_fRX11_34 rfl hin rfl rfl rfl (gD D_X11_init_0 23 rfl) (fun s95 es95 => ?_)
  replace hw := hw s95 es95
  refine v_aload_n X 0 rfl (gD D_X11_init_0 24 rfl) rfl ?_
  obtain ⟨k96, n97, h98, h99, hw⟩ := hw
  refine v_new X RJx4a65c TJx4a65c 3 30 13 (by decide) rfl gin13 tyJx4a65c tyJx4a65c_ok lk_kRX11_27 lk_tJx4a65c lk_n_RJx4a65c dfl_Jx4a65c k96 n97 h98 h99 (gD D_X11_init_0 25 rfl) (fun a100 s101 ha100 es101 => ?_)
  replace hw := hw a100 s101 ha100 es101
  refine v_dup X (gD D_X11_init_0 26 rfl) (rf_cat _) ?_
  refine v_callIv X (As := []) (rest := [va_rf (some a100), va_rf (some a0)]) (nA := 0) 0 0 k96 n97 (fun ht => c_Jx4a65c_init_da8c8 htr (ht.sub [0] rfl) hw) (Or.inl rfl) lk_c_Jx4a65c_init_da8c8 lk_n_RJx4a65c lk_mRX11_29 lk_i_Jx4a65c_init_da8c8 rfl (by decide +kernel) rfl rfl (by simp [rf_cat, ct_i]) (by decide) (by decide) rfl rfl (gD D_X11_init_0 27 rfl) (fun s103 hq _ _ => ?_)
  replace hw := hq
  clear hq
  refine v_putRF X RX11 TX11 19 12 11 (by decide) rfl gin11 5 1105 tyX11 tyX11_ok nmX11 RX11 (Or.inl rfl) 6 rfl (fun b hb => ⟨0, by rw [← hb]; rfl⟩) rfl (by decide) (Or.inl rfl) lk_fRX11_37 rfl hin rfl rfl rfl (gD D_X11_init_0 28 rfl) (fun s104 es104 => ?_)
  replace hw := hw s104 es104
  refine v_aload_n X 0 rfl (gD D_X11_init_0 29 rfl) rfl ?_
  obtain ⟨k105, n106, h107, h108, hw⟩ := hw
  refine v_new X RJx4a65c TJx4a65c 3 30 13 (by decide) rfl gin13 tyJx4a65c tyJx4a65c_ok lk_kRX11_27 lk_tJx4a65c lk_n_RJx4a65c dfl_Jx4a65c k105 n106 h107 h108 (gD D_X11_init_0 30 rfl) (fun a109 s110 ha109 es110 => ?_)
  replace hw := hw a109 s110 ha109 es110
  refine v_dup X (gD D_X11_init_0 31 rfl) (rf_cat _) ?_
  refine v_callIv X (As := []) (rest := [va_rf (some a109), va_rf (some a0)]) (nA := 0) 0 0 k105 n106 (fun ht => c_Jx4a65c_init_da8c8 htr (ht.sub [0] rfl) hw) (Or.inl rfl) lk_c_Jx4a65c_init_da8c8 lk_n_RJx4a65c lk_mRX11_29 lk_i_Jx4a65c_init_da8c8 rfl (by decide +kernel) rfl rfl (by simp [rf_cat, ct_i]) (by decide) (by decide) rfl rfl (gD D_X11_init_0 32 rfl) (fun s112 hq _ _ => ?_)
  replace hw := hq
  clear hq
  refine v_putRF X RX11 TX11 19 12 11 (by decide) rfl gin11 6 1106 tyX11 tyX11_ok nmX11 RX11 (Or.inl rfl) 7 rfl (fun b hb => ⟨0, by rw [← hb]; rfl⟩) rfl (by decide) (Or.inl rfl) lk_fRX11_40 rfl hin rfl rfl rfl (gD D_X11_init_0 33 rfl) (fun s113 es113 => ?_)
  replace hw := hw s113 es113
  refine v_aload_n X 0 rfl (gD D_X11_init_0 34 rfl) rfl ?_
  obtain ⟨k114, n115, h116, h117, hw⟩ := hw
  refine v_new X RJx4a65c TJx4a65c 3 30 13 (by decide) rfl gin13 tyJx4a65c tyJx4a65c_ok lk_kRX11_27 lk_tJx4a65c lk_n_RJx4a65c dfl_Jx4a65c k114 n115 h116 h117 (gD D_X11_init_0 35 rfl) (fun a118 s119 ha118 es119 => ?_)
  replace hw := hw a118 s119 ha118 es119
  refine v_dup X (gD D_X11_init_0 36 rfl) (rf_cat _) ?_
  refine v_callIv X (As := []) (rest := [va_rf (some a118), va_rf (some a0)]) (nA := 0) 0 0 k114 n115 (fun ht => c_Jx4a65c_init_da8c8 htr (ht.sub [0] rfl) hw) (Or.inl rfl) lk_c_Jx4a65c_init_da8c8 lk_n_RJx4a65c lk_mRX11_29 lk_i_Jx4a65c_init_da8c8 rfl (by decide +kernel) rfl rfl (by simp [rf_cat, ct_i]) (by decide) (by decide) rfl rfl (gD D_X11_init_0 37 rfl) (fun s121 hq _ _ => ?_)
  replace hw := hq
  clear hq
  refine v_putRF X RX11 TX11 19 12 11 (by decide) rfl gin11 7 1107 tyX11 tyX11_ok nmX11 RX11 (Or.inl rfl) 8 rfl (fun b hb => ⟨0, by rw [← hb]; rfl⟩) rfl (by decide) (Or.inl rfl) lk_fRX11_43 rfl hin rfl rfl rfl (gD D_X11_init_0 38 rfl) (fun s122 es122 => ?_)
  replace hw := hw s122 es122
  refine v_aload_n X 0 rfl (gD D_X11_init_0 39 rfl) rfl ?_
  obtain ⟨k123, n124, h125, h126, hw⟩ := hw
  refine v_new X RJx4a65c TJx4a65c 3 30 13 (by decide) rfl gin13 tyJx4a65c tyJx4a65c_ok lk_kRX11_27 lk_tJx4a65c lk_n_RJx4a65c dfl_Jx4a65c k123 n124 h125 h126 (gD D_X11_init_0 40 rfl) (fun a127 s128 ha127 es128 => ?_)
  replace hw := hw a127 s128 ha127 es128
  refine v_dup X (gD D_X11_init_0 41 rfl) (rf_cat _) ?_
  refine v_callIv X (As := []) (rest := [va_rf (some a127), va_rf (some a0)]) (nA := 0) 0 0 k123 n124 (fun ht => c_Jx4a65c_init_da8c8 htr (ht.sub [0] rfl) hw) (Or.inl rfl) lk_c_Jx4a65c_init_da8c8 lk_n_RJx4a65c lk_mRX11_29 lk_i_Jx4a65c_init_da8c8 rfl (by decide +kernel) rfl rfl (by simp [rf_cat, ct_i]) (by decide) (by decide) rfl rfl (gD D_X11_init_0 42 rfl) (fun s130 hq _ _ => ?_)
  replace hw := hq
  clear hq
  refine v_putRF X RX11 TX11 19 12 11 (by decide) rfl gin11 8 1108 tyX11 tyX11_ok nmX11 RX11 (Or.inl rfl) 9 rfl (fun b hb => ⟨0, by rw [← hb]; rfl⟩) rfl (by decide) (Or.inl rfl) lk_fRX11_46 rfl hin rfl rfl rfl (gD D_X11_init_0 43 rfl) (fun s131 es131 => ?_)
  replace hw := hw s131 es131
  refine v_aload_n X 0 rfl (gD D_X11_init_0 44 rfl) rfl ?_
  obtain ⟨k132, n133, h134, h135, hw⟩ := hw
  refine v_new X RX0 TX0 8 1 0 (by decide) rfl gin0 tyX0 tyX0_ok lk_kRX11_49 lk_tX0 lk_n_RX0 dfl_X0 k132 n133 h134 h135 (gD D_X11_init_0 45 rfl) (fun a136 s137 ha136 es137 => ?_)
  replace hw := hw a136 s137 ha136 es137
  refine v_dup X (gD D_X11_init_0 46 rfl) (rf_cat _) ?_
  obtain ⟨k140, n141, k142, n143, h144, h145, hw⟩ := hw
  refine v_callNv X (As := []) (rest := [va_rf (some a136), va_rf (some a0)]) (nA := 0) k140 n141 k142 n143 (fun ht => c_X0_init htr (ht.sub [0] rfl) hw) (Or.inl rfl) (host := RX11) lk_c_X0_init lk_n_RX0 (List.mem_of_getElem? (i := 0) rfl) lk_i_X0_init rfl (by decide +kernel) rfl rfl (by simp [rf_cat, ct_i]) (by decide) (by decide) h144 h145 (gD D_X11_init_0 47 rfl) (fun s139 hq _ _ => ?_)
  replace hw := hq
  clear hq
  refine v_putRF X RX11 TX11 19 12 11 (by decide) rfl gin11 9 1109 tyX11 tyX11_ok nmX11 RX11 (Or.inl rfl) 10 rfl (fun b hb => ⟨0, by rw [← hb]; rfl⟩) rfl (by decide) (Or.inl rfl) lk_fRX11_52 rfl hin rfl rfl rfl (gD D_X11_init_0 48 rfl) (fun s146 es146 => ?_)
  replace hw := hw s146 es146
  refine v_aload_n X 0 rfl (gD D_X11_init_0 49 rfl) rfl ?_
  obtain ⟨k147, n148, h149, h150, hw⟩ := hw
  refine v_new X RX1 TX1 2 2 1 (by decide) rfl gin1 tyX1 tyX1_ok lk_kRX11_56 lk_tX1 lk_n_RX1 dfl_X1 k147 n148 h149 h150 (gD D_X11_init_0 50 rfl) (fun a151 s152 ha151 es152 => ?_)
  replace hw := hw a151 s152 ha151 es152
  refine v_dup X (gD D_X11_init_0 51 rfl) (rf_cat _) ?_
  refine v_bipush X 8 (gD D_X11_init_0 52 rfl) (by decide) ?_
  refine v_bipush X 12 (gD D_X11_init_0 53 rfl) (by decide) ?_
  obtain ⟨k155, n156, k157, n158, h159, h160, hw⟩ := hw
  refine v_callIv X (As := [.int 8, .int 12]) (rest := [va_rf (some a151), va_rf (some a0)]) (nA := 2) k155 n156 k157 n158 (fun ht => c_X1_init htr (ht.sub [0] rfl) hw) (Or.inl rfl) lk_c_X1_init lk_n_RX1 lk_mRX11_58 lk_i_X1_init rfl (by decide +kernel) rfl rfl (by simp [rf_cat, ct_i]) (by decide) (by decide) h159 h160 (gD D_X11_init_0 54 rfl) (fun s154 hq _ _ => ?_)
  replace hw := hq
  clear hq
  refine v_putRF X RX11 TX11 19 12 11 (by decide) rfl gin11 10 1110 tyX11 tyX11_ok nmX11 RX11 (Or.inl rfl) 11 rfl (fun b hb => ⟨0, by rw [← hb]; rfl⟩) rfl (by decide) (Or.inl rfl) lk_fRX11_61 rfl hin rfl rfl rfl (gD D_X11_init_0 55 rfl) (fun s161 es161 => ?_)
  replace hw := hw s161 es161
  refine v_aload_n X 0 rfl (gD D_X11_init_0 56 rfl) rfl ?_
  obtain ⟨k162, n163, h164, h165, hw⟩ := hw
  refine v_new X RX1 TX1 2 2 1 (by decide) rfl gin1 tyX1 tyX1_ok lk_kRX11_56 lk_tX1 lk_n_RX1 dfl_X1 k162 n163 h164 h165 (gD D_X11_init_0 57 rfl) (fun a166 s167 ha166 es167 => ?_)
  replace hw := hw a166 s167 ha166 es167
  refine v_dup X (gD D_X11_init_0 58 rfl) (rf_cat _) ?_
  refine v_bipush X 8 (gD D_X11_init_0 59 rfl) (by decide) ?_
  refine v_bipush X 12 (gD D_X11_init_0 60 rfl) (by decide) ?_
  obtain ⟨k170, n171, k172, n173, h174, h175, hw⟩ := hw
  refine v_callIv X (As := [.int 8, .int 12]) (rest := [va_rf (some a166), va_rf (some a0)]) (nA := 2) k170 n171 k172 n173 (fun ht => c_X1_init htr (ht.sub [0] rfl) hw) (Or.inl rfl) lk_c_X1_init lk_n_RX1 lk_mRX11_58 lk_i_X1_init rfl (by decide +kernel) rfl rfl (by simp [rf_cat, ct_i]) (by decide) (by decide) h174 h175 (gD D_X11_init_0 61 rfl) (fun s169 hq _ _ => ?_)
  replace hw := hq
  clear hq
  refine v_putRF X RX11 TX11 19 12 11 (by decide) rfl gin11 11 1111 tyX11 tyX11_ok nmX11 RX11 (Or.inl rfl) 12 rfl (fun b hb => ⟨0, by rw [← hb]; rfl⟩) rfl (by decide) (Or.inl rfl) lk_fRX11_65 rfl hin rfl rfl rfl (gD D_X11_init_0 62 rfl) (fun s176 es176 => ?_)
  replace hw := hw s176 es176
  refine v_aload_n X 0 rfl (gD D_X11_init_0 63 rfl) rfl ?_
  obtain ⟨k177, n178, h179, h180, hw⟩ := hw
  refine v_new X RX1 TX1 2 2 1 (by decide) rfl gin1 tyX1 tyX1_ok lk_kRX11_56 lk_tX1 lk_n_RX1 dfl_X1 k177 n178 h179 h180 (gD D_X11_init_0 64 rfl) (fun a181 s182 ha181 es182 => ?_)
  replace hw := hw a181 s182 ha181 es182
  refine v_dup X (gD D_X11_init_0 65 rfl) (rf_cat _) ?_
  refine v_bipush X 8 (gD D_X11_init_0 66 rfl) (by decide) ?_
  refine v_bipush X 6 (gD D_X11_init_0 67 rfl) (by decide) ?_
  obtain ⟨k185, n186, k187, n188, h189, h190, hw⟩ := hw
  refine v_callIv X (As := [.int 8, .int 6]) (rest := [va_rf (some a181), va_rf (some a0)]) (nA := 2) k185 n186 k187 n188 (fun ht => c_X1_init htr (ht.sub [0] rfl) hw) (Or.inl rfl) lk_c_X1_init lk_n_RX1 lk_mRX11_58 lk_i_X1_init rfl (by decide +kernel) rfl rfl (by simp [rf_cat, ct_i]) (by decide) (by decide) h189 h190 (gD D_X11_init_0 68 rfl) (fun s184 hq _ _ => ?_)
  replace hw := hq
  clear hq
  refine v_putRF X RX11 TX11 19 12 11 (by decide) rfl gin11 12 1112 tyX11 tyX11_ok nmX11 RX11 (Or.inl rfl) 13 rfl (fun b hb => ⟨0, by rw [← hb]; rfl⟩) rfl (by decide) (Or.inl rfl) lk_fRX11_68 rfl hin rfl rfl rfl (gD D_X11_init_0 69 rfl) (fun s191 es191 => ?_)
  replace hw := hw s191 es191
  refine v_aload_n X 0 rfl (gD D_X11_init_0 70 rfl) rfl ?_
  obtain ⟨k192, n193, h194, h195, hw⟩ := hw
  refine v_new X RX1 TX1 2 2 1 (by decide) rfl gin1 tyX1 tyX1_ok lk_kRX11_56 lk_tX1 lk_n_RX1 dfl_X1 k192 n193 h194 h195 (gD D_X11_init_0 71 rfl) (fun a196 s197 ha196 es197 => ?_)
  replace hw := hw a196 s197 ha196 es197
  refine v_dup X (gD D_X11_init_0 72 rfl) (rf_cat _) ?_
  refine v_sipush X 297 (gD D_X11_init_0 73 rfl) (by decide) ?_
  refine v_iconst X 4 (gD D_X11_init_0 74 rfl) (by decide) ?_
  obtain ⟨k200, n201, k202, n203, h204, h205, hw⟩ := hw
  refine v_callIv X (As := [.int 297, .int 4]) (rest := [va_rf (some a196), va_rf (some a0)]) (nA := 2) k200 n201 k202 n203 (fun ht => c_X1_init htr (ht.sub [0] rfl) hw) (Or.inl rfl) lk_c_X1_init lk_n_RX1 lk_mRX11_58 lk_i_X1_init rfl (by decide +kernel) rfl rfl (by simp [rf_cat, ct_i]) (by decide) (by decide) h204 h205 (gD D_X11_init_0 75 rfl) (fun s199 hq _ _ => ?_)
  replace hw := hq
  clear hq
  refine v_putRF X RX11 TX11 19 12 11 (by decide) rfl gin11 13 1113 tyX11 tyX11_ok nmX11 RX11 (Or.inl rfl) 14 rfl (fun b hb => ⟨0, by rw [← hb]; rfl⟩) rfl (by decide) (Or.inl rfl) lk_fRX11_71 rfl hin rfl rfl rfl (gD D_X11_init_0 76 rfl) (fun s206 es206 => ?_)
  replace hw := hw s206 es206
  refine v_iconst X 0 (gD D_X11_init_0 77 rfl) (by decide) ?_
  refine v_istore_n X [(1, .int 0), (0, va_rf (some a0))] (gD D_X11_init_0 78 rfl) rfl (by decide) rfl ?_
  obtain ⟨f260, hw⟩ := hw
  exact v_sub [14] [1, 0] rfl rfl (t_X11_init_169 X hr hin htr  f260 a0 0 s206 k202 n203 hw)
set_option maxRecDepth 100000 in
set_option maxHeartbeats 4000000 in
theorem c_X11_item {l : Launch} {G : GX} (htr : l.stackTraces = false) {k n : Nat} {σ : St} {a0 : Nat} {x1 : Int32} {x2 : Int32} {x3 : Int32} {x4 : Int32} {x5 : Int32} {x6 : Int32} {Q : St → Prop} {Y : Nat → St → Prop} (ht : tvOk σ [(some a0, 12)]) (hw : w_X11_item k n a0 x1 x2 x3 x4 x5 x6 σ Q Y) : MVX l G 1 σ yX11_item cX11_item 7 4 k n [va_rf (some a0), .int x1, .int x2, .int x3, .int x4, .int x5, .int x6] Q Y := by
  unfold w_X11_item at hw
  refine m_startX RX11 (by decide) htr ht (Nat.le_of_ble_eq_true rfl) rfl (lv := [(0, va_rf (some a0)), (1, .int x1), (2, .int x2), (3, .int x3), (4, .int x4), (5, .int x5), (6, .int x6)]) (d := 1) (fun p e s m args below meth c X hr hin hex => ?_)
  refine v_iload_n X 1 rfl (gD D_X11_item_0 0 rfl) rfl ?_
  refine v_callSi X (As := [.int x1]) (rest := []) (nA := 1) 0 0 k n (fun ht => c_X11_isItem htr (ht.sub [] rfl) hw) (Or.inl rfl) lk_sRX11_110 (by decide +kernel) rfl rfl (by decide) (by decide) (by decide) rfl rfl (gD D_X11_item_0 1 rfl) (fun x51 s52 hq _ _ => ?_)
  replace hw := hq
  clear hq
  refine v_if_eq X 15 (gD D_X11_item_0 2 rfl) (by decide) (fun c53 => ?_) (fun c53 => ?_)
  · replace hw := hw.1 c53
    exact v_throw X hex 1 (by decide +kernel) lk_xRX11_83 lk_xi_1 lk_xaRX11_85 lk_xgRX11_83_85 (gD D_X11_item_0 6 rfl) (gD D_X11_item_0 7 rfl) (gD D_X11_item_0 8 rfl) (gD D_X11_item_0 9 rfl) (by decide) hw
  · replace hw := hw.2 c53
    refine v_iload X 5 rfl (gD D_X11_item_0 3 rfl) ?_
    refine v_callSi X (As := [.int x5]) (rest := []) (nA := 1) 0 0 k n (fun ht => c_X11_isGroup htr (ht.sub [] rfl) hw) (Or.inl rfl) lk_sRX11_120 (by decide +kernel) rfl rfl (by decide) (by decide) (by decide) rfl rfl (gD D_X11_item_0 4 rfl) (fun x54 s55 hq _ _ => ?_)
    replace hw := hq
    clear hq
    refine v_if_ne X 23 (gD D_X11_item_0 5 rfl) (by decide) (fun c56 => ?_) (fun c56 => ?_)
    · replace hw := hw.1 c56
      refine v_iload_n X 2 rfl (gD D_X11_item_0 10 rfl) rfl ?_
      refine v_iconst X 0 (gD D_X11_item_0 11 rfl) (by decide) ?_
      refine v_iconst X 2 (gD D_X11_item_0 12 rfl) (by decide) ?_
      refine v_callSi X (As := [.int x2, .int 0, .int 2]) (rest := []) (nA := 3) 0 0 k n (fun ht => c_X11_isWithin htr (ht.sub [] rfl) hw) (Or.inl rfl) lk_sRX11_86 (by decide +kernel) rfl rfl (by decide) (by decide) (by decide) rfl rfl (gD D_X11_item_0 13 rfl) (fun x57 s58 hq _ _ => ?_)
      replace hw := hq
      clear hq
      refine v_if_eq X 64 (gD D_X11_item_0 14 rfl) (by decide) (fun c59 => ?_) (fun c59 => ?_)
      · replace hw := hw.1 c59
        exact v_throw X hex 2 (by decide +kernel) lk_xRX11_90 lk_xi_2 lk_xaRX11_92 lk_xgRX11_90_92 (gD D_X11_item_0 30 rfl) (gD D_X11_item_0 31 rfl) (gD D_X11_item_0 32 rfl) (gD D_X11_item_0 33 rfl) (by decide) hw
      · replace hw := hw.2 c59
        refine v_iload_n X 3 rfl (gD D_X11_item_0 15 rfl) rfl ?_
        refine v_iconst X 1 (gD D_X11_item_0 16 rfl) (by decide) ?_
        refine v_bipush X 9 (gD D_X11_item_0 17 rfl) (by decide) ?_
        refine v_callSi X (As := [.int x3, .int 1, .int 9]) (rest := []) (nA := 3) 0 0 k n (fun ht => c_X11_isWithin htr (ht.sub [] rfl) hw) (Or.inl rfl) lk_sRX11_86 (by decide +kernel) rfl rfl (by decide) (by decide) (by decide) rfl rfl (gD D_X11_item_0 18 rfl) (fun x60 s61 hq _ _ => ?_)
        replace hw := hq
        clear hq
        refine v_if_eq X 64 (gD D_X11_item_0 19 rfl) (by decide) (fun c62 => ?_) (fun c62 => ?_)
        · replace hw := hw.1 c62
          exact v_throw X hex 2 (by decide +kernel) lk_xRX11_90 lk_xi_2 lk_xaRX11_92 lk_xgRX11_90_92 (gD D_X11_item_0 30 rfl) (gD D_X11_item_0 31 rfl) (gD D_X11_item_0 32 rfl) (gD D_X11_item_0 33 rfl) (by decide) hw
        · replace hw := hw.2 c62
          refine v_iload X 4 rfl (gD D_X11_item_0 20 rfl) ?_
          refine v_iconst X 1 (gD D_X11_item_0 21 rfl) (by decide) ?_
          refine v_bipush X 20 (gD D_X11_item_0 22 rfl) (by decide) ?_
          refine v_callSi X (As := [.int x4, .int 1, .int 20]) (rest := []) (nA := 3) 0 0 k n (fun ht => c_X11_isWithin htr (ht.sub [] rfl) hw) (Or.inl rfl) lk_sRX11_86 (by decide +kernel) rfl rfl (by decide) (by decide) (by decide) rfl rfl (gD D_X11_item_0 23 rfl) (fun x63 s64 hq _ _ => ?_)
          replace hw := hq
          clear hq
          refine v_if_eq X 64 (gD D_X11_item_0 24 rfl) (by decide) (fun c65 => ?_) (fun c65 => ?_)
          · replace hw := hw.1 c65
            exact v_throw X hex 2 (by decide +kernel) lk_xRX11_90 lk_xi_2 lk_xaRX11_92 lk_xgRX11_90_92 (gD D_X11_item_0 30 rfl) (gD D_X11_item_0 31 rfl) (gD D_X11_item_0 32 rfl) (gD D_X11_item_0 33 rfl) (by decide) hw
          · replace hw := hw.2 c65
            refine v_iload X 6 rfl (gD D_X11_item_0 25 rfl) ?_
            refine v_iconst X 1 (gD D_X11_item_0 26 rfl) (by decide) ?_
            refine v_bipush X 12 (gD D_X11_item_0 27 rfl) (by decide) ?_
            refine v_callSi X (As := [.int x6, .int 1, .int 12]) (rest := []) (nA := 3) 0 0 k n (fun ht => c_X11_isWithin htr (ht.sub [] rfl) hw) (Or.inl rfl) lk_sRX11_86 (by decide +kernel) rfl rfl (by decide) (by decide) (by decide) rfl rfl (gD D_X11_item_0 28 rfl) (fun x66 s67 hq _ _ => ?_)
            replace hw := hq
            clear hq
            refine v_if_ne X 72 (gD D_X11_item_0 29 rfl) (by decide) (fun c68 => ?_) (fun c68 => ?_)
            · replace hw := hw.1 c68
              refine v_aload_n X 0 rfl (gD D_X11_item_0 34 rfl) rfl ?_
              refine v_aload_n X 0 rfl (gD D_X11_item_0 35 rfl) rfl ?_
              refine v_getR X RX11 TX11 19 12 11 (by decide) rfl gin11 1 1101 RX11 (Or.inl rfl) 0 25 rfl rfl rfl (by decide) lk_fRX11_17 (gD D_X11_item_0 36 rfl) (fun o69 eo69 => ?_)
              replace hw := hw o69 eo69
              refine v_iload_n X 1 rfl (gD D_X11_item_0 37 rfl) rfl ?_
              obtain ⟨a70, rfl, hw⟩ := hw
              obtain ⟨h71, hw⟩ := hw
              refine v_aald X 0 4 rfl (by decide) h71 (gD D_X11_item_0 38 rfl) (fun o72 eo72 => ?_)
              replace hw := hw o72 eo72
              obtain ⟨a73, rfl, hw⟩ := hw
              refine v_callVi X (As := [va_rf (some a73)]) (rest := []) (nA := 1) 0 0 k n (fun ht => c_X11_hasLotOrFace htr (ht.sub [2, 0] rfl) hw) (Or.inl rfl) 2 (κ := 12) rfl (by decide) (rfl : gCl[11]? = some (RX11, TX11, 19)) lk_vRX11_123 (by decide +kernel) rfl rfl (by decide) (by decide) (by decide) rfl rfl (gD D_X11_item_0 39 rfl) (fun x74 s75 hq _ _ => ?_)
              replace hw := hq
              clear hq
              refine v_if_eq X 93 (gD D_X11_item_0 40 rfl) (by decide) (fun c76 => ?_) (fun c76 => ?_)
              · replace hw := hw.1 c76
                refine v_aload_n X 0 rfl (gD D_X11_item_0 45 rfl) rfl ?_
                refine v_getR X RX11 TX11 19 12 11 (by decide) rfl gin11 1 1101 RX11 (Or.inl rfl) 2 25 rfl rfl rfl (by decide) lk_fRX11_17 (gD D_X11_item_0 46 rfl) (fun o77 eo77 => ?_)
                replace hw := hw o77 eo77
                refine v_iload_n X 1 rfl (gD D_X11_item_0 47 rfl) rfl ?_
                obtain ⟨a78, rfl, hw⟩ := hw
                obtain ⟨h79, hw⟩ := hw
                refine v_aald X 0 4 rfl (by decide) h79 (gD D_X11_item_0 48 rfl) (fun o80 eo80 => ?_)
                replace hw := hw o80 eo80
                refine v_iload_n X 2 rfl (gD D_X11_item_0 49 rfl) rfl ?_
                obtain ⟨a81, rfl, hw⟩ := hw
                refine v_putI X RX3 TX3 6 4 3 (by decide) rfl gin3 1 301 tyX3 tyX3_ok nmX3 RX3 (Or.inl rfl) 0 rfl .int (int_fit _) rfl (by decide) (Or.inl rfl) lk_fRX11_113 rfl rfl (gD D_X11_item_0 50 rfl) (fun s82 es82 => ?_)
                replace hw := hw s82 es82
                refine v_aload_n X 0 rfl (gD D_X11_item_0 51 rfl) rfl ?_
                refine v_getR X RX11 TX11 19 12 11 (by decide) rfl gin11 1 1101 RX11 (Or.inl rfl) 4 25 rfl rfl rfl (by decide) lk_fRX11_17 (gD D_X11_item_0 52 rfl) (fun o83 eo83 => ?_)
                replace hw := hw o83 eo83
                refine v_iload_n X 1 rfl (gD D_X11_item_0 53 rfl) rfl ?_
                obtain ⟨a84, rfl, hw⟩ := hw
                obtain ⟨h85, hw⟩ := hw
                refine v_aald X 0 4 rfl (by decide) h85 (gD D_X11_item_0 54 rfl) (fun o86 eo86 => ?_)
                replace hw := hw o86 eo86
                refine v_iload_n X 3 rfl (gD D_X11_item_0 55 rfl) rfl ?_
                obtain ⟨a87, rfl, hw⟩ := hw
                refine v_putI X RX3 TX3 6 4 3 (by decide) rfl gin3 2 302 tyX3 tyX3_ok nmX3 RX3 (Or.inl rfl) 0 rfl .int (int_fit _) rfl (by decide) (Or.inl rfl) lk_fRX11_127 rfl rfl (gD D_X11_item_0 56 rfl) (fun s88 es88 => ?_)
                replace hw := hw s88 es88
                refine v_aload_n X 0 rfl (gD D_X11_item_0 57 rfl) rfl ?_
                refine v_getR X RX11 TX11 19 12 11 (by decide) rfl gin11 1 1101 RX11 (Or.inl rfl) 6 25 rfl rfl rfl (by decide) lk_fRX11_17 (gD D_X11_item_0 58 rfl) (fun o89 eo89 => ?_)
                replace hw := hw o89 eo89
                refine v_iload_n X 1 rfl (gD D_X11_item_0 59 rfl) rfl ?_
                obtain ⟨a90, rfl, hw⟩ := hw
                obtain ⟨h91, hw⟩ := hw
                refine v_aald X 0 4 rfl (by decide) h91 (gD D_X11_item_0 60 rfl) (fun o92 eo92 => ?_)
                replace hw := hw o92 eo92
                refine v_iload X 4 rfl (gD D_X11_item_0 61 rfl) ?_
                obtain ⟨a93, rfl, hw⟩ := hw
                refine v_putI X RX3 TX3 6 4 3 (by decide) rfl gin3 3 303 tyX3 tyX3_ok nmX3 RX3 (Or.inl rfl) 0 rfl .int (int_fit _) rfl (by decide) (Or.inl rfl) lk_fRX11_130 rfl rfl (gD D_X11_item_0 62 rfl) (fun s94 es94 => ?_)
                replace hw := hw s94 es94
                refine v_aload_n X 0 rfl (gD D_X11_item_0 63 rfl) rfl ?_
                refine v_getR X RX11 TX11 19 12 11 (by decide) rfl gin11 1 1101 RX11 (Or.inl rfl) 8 25 rfl rfl rfl (by decide) lk_fRX11_17 (gD D_X11_item_0 64 rfl) (fun o95 eo95 => ?_)
                replace hw := hw o95 eo95
                refine v_iload_n X 1 rfl (gD D_X11_item_0 65 rfl) rfl ?_
                obtain ⟨a96, rfl, hw⟩ := hw
                obtain ⟨h97, hw⟩ := hw
                refine v_aald X 0 4 rfl (by decide) h97 (gD D_X11_item_0 66 rfl) (fun o98 eo98 => ?_)
                replace hw := hw o98 eo98
                refine v_iload X 5 rfl (gD D_X11_item_0 67 rfl) ?_
                obtain ⟨a99, rfl, hw⟩ := hw
                refine v_putI X RX3 TX3 6 4 3 (by decide) rfl gin3 4 304 tyX3 tyX3_ok nmX3 RX3 (Or.inl rfl) 0 rfl .int (int_fit _) rfl (by decide) (Or.inl rfl) lk_fRX11_133 rfl rfl (gD D_X11_item_0 68 rfl) (fun s100 es100 => ?_)
                replace hw := hw s100 es100
                refine v_aload_n X 0 rfl (gD D_X11_item_0 69 rfl) rfl ?_
                refine v_getR X RX11 TX11 19 12 11 (by decide) rfl gin11 1 1101 RX11 (Or.inl rfl) 10 25 rfl rfl rfl (by decide) lk_fRX11_17 (gD D_X11_item_0 70 rfl) (fun o101 eo101 => ?_)
                replace hw := hw o101 eo101
                refine v_iload_n X 1 rfl (gD D_X11_item_0 71 rfl) rfl ?_
                obtain ⟨a102, rfl, hw⟩ := hw
                obtain ⟨h103, hw⟩ := hw
                refine v_aald X 0 4 rfl (by decide) h103 (gD D_X11_item_0 72 rfl) (fun o104 eo104 => ?_)
                replace hw := hw o104 eo104
                refine v_iload X 6 rfl (gD D_X11_item_0 73 rfl) ?_
                obtain ⟨a105, rfl, hw⟩ := hw
                refine v_putI X RX3 TX3 6 4 3 (by decide) rfl gin3 5 305 tyX3 tyX3_ok nmX3 RX3 (Or.inl rfl) 0 rfl .int (int_fit _) rfl (by decide) (Or.inl rfl) lk_fRX11_136 rfl rfl (gD D_X11_item_0 74 rfl) (fun s106 es106 => ?_)
                replace hw := hw s106 es106
                exact v_X (v_vret X hr hw (gD D_X11_item_0 75 rfl))
              · replace hw := hw.2 c76
                exact v_throw X hex 3 (by decide +kernel) lk_xRX11_100 lk_xi_3 lk_xaRX11_102 lk_xgRX11_100_102 (gD D_X11_item_0 41 rfl) (gD D_X11_item_0 42 rfl) (gD D_X11_item_0 43 rfl) (gD D_X11_item_0 44 rfl) (by decide) hw
            · replace hw := hw.2 c68
              exact v_throw X hex 2 (by decide +kernel) lk_xRX11_90 lk_xi_2 lk_xaRX11_92 lk_xgRX11_90_92 (gD D_X11_item_0 30 rfl) (gD D_X11_item_0 31 rfl) (gD D_X11_item_0 32 rfl) (gD D_X11_item_0 33 rfl) (by decide) hw
    · replace hw := hw.2 c56
      exact v_throw X hex 1 (by decide +kernel) lk_xRX11_83 lk_xi_1 lk_xaRX11_85 lk_xgRX11_83_85 (gD D_X11_item_0 6 rfl) (gD D_X11_item_0 7 rfl) (gD D_X11_item_0 8 rfl) (gD D_X11_item_0 9 rfl) (by decide) hw
set_option maxRecDepth 100000 in
set_option maxHeartbeats 4000000 in
theorem t_X11_judge_75 {p : Program} {l : Launch} {e : Env} {s : State} {m : MethodId} {args : Array Value} {below : List Frame} {meth : Method} {c : Code} {G : GX} {σ0 : St} {mc ms : Nat} {Q : Int32 → St → Prop} {Y : Nat → St → Prop} (X : VC p l (rmD 4 mc ms) s m args meth c G 4 mc ms 4 RX11 cX11_judge) (hr : meth.sig.returnType = (some .int)) (hin : meth.name = yX11_judge.name) (htr : l.stackTraces = false) (hex : ∀ x ∈ c.exceptionTable.toList, False) : ∀ (a0 : Nat) (x1 : Int32) (x2 : Int32) (os0 : Option Nat) (xs1 : Int32) (xs2 : Int32) (σ : St) (k n : Nat), w_X11_judge_75 Q Y  a0 x1 x2 os0 xs1 xs2 σ k n → V p l e (rmD 4 mc ms) s m args below meth c (vx_MQ below (va_Qi Q (gB G 1 σ0) (GA G)) (gX G 1 σ0 Y) args s mc ms (GA G)) G 1 σ0 mc ms 4 σ k n [(some a0, 12), (os0, 1)] 75 [(0, va_rf (some a0)), (1, .int x1), (2, .int x2)] [.int xs2, .int xs1, va_rf os0] := by
  intro a0 x1 x2 os0 xs1 xs2 σ k n hw
  unfold w_X11_judge_75 at hw
  refine v_aload_n X 0 rfl (gD D_X11_judge_0 37 rfl) rfl ?_
  refine v_getR X RX11 TX11 19 12 11 (by decide) rfl gin11 3 1103 RX11 (Or.inl rfl) 0 30 rfl rfl rfl (by decide) lk_fRX11_30 (gD D_X11_judge_0 38 rfl) (fun o66 eo66 => ?_)
  replace hw := hw o66 eo66
  refine v_iload_n X 1 rfl (gD D_X11_judge_0 39 rfl) rfl ?_
  obtain ⟨a67, rfl, hw⟩ := hw
  refine v_callVu X (As := [.int x1]) (rest := [.int xs2, .int xs1, va_rf os0]) (nA := 1) 0 0 k n (fun ht => c_Jx4a65c_get_915e3 htr (ht.sub [0] rfl) hw) (Or.inl rfl) 0 (κ := 30) rfl (by decide) (rfl : gCl[13]? = some (RJx4a65c, TJx4a65c, 3)) lk_vRX11_153 (by decide +kernel) rfl rfl (by simp [rf_cat, ct_i]) (by decide) (by decide) rfl rfl (gD D_X11_judge_0 40 rfl) (fun o68 s69 hq _ _ => ?_)
  replace hw := hq
  clear hq
  obtain ⟨a70, rfl, hw⟩ := hw
  obtain ⟨h71, hw⟩ := hw
  refine v_cast X RX5 TX5 4 6 5 h71 (by decide) rfl lk_kRX11_148 (gD D_X11_judge_0 41 rfl) ?_
  refine v_iload_n X 2 rfl (gD D_X11_judge_0 42 rfl) rfl ?_
  obtain ⟨a72, rfl, hw⟩ := hw
  obtain ⟨k75, n76, k77, n78, h79, h80, hw⟩ := hw
  refine v_callVv X (As := [.int xs1, .int xs2, va_rf (some a70), .int x2]) (rest := []) (nA := 4) k75 n76 k77 n78 (fun ht => c_X0_move htr (ht.sub [3, 0] rfl) hw) (Or.inl rfl) 3 (κ := 1) rfl (by decide) (rfl : gCl[0]? = some (RX0, TX0, 8)) lk_vRX11_205 (by decide +kernel) rfl rfl (by decide) (by decide) (by decide) h79 h80 (gD D_X11_judge_0 43 rfl) (fun s74 hq _ _ => ?_)
  replace hw := hq
  clear hq
  refine v_aload_n X 0 rfl (gD D_X11_judge_0 44 rfl) rfl ?_
  refine v_getR X RX11 TX11 19 12 11 (by decide) rfl gin11 9 1109 RX11 (Or.inl rfl) 2 1 rfl rfl rfl (by decide) lk_fRX11_52 (gD D_X11_judge_0 45 rfl) (fun o81 eo81 => ?_)
  replace hw := hw o81 eo81
  obtain ⟨a82, rfl, hw⟩ := hw
  refine v_getR X RX0 TX0 8 1 0 (by decide) rfl gin0 0 0 RX0 (Or.inl rfl) 0 2 rfl rfl rfl (by decide) lk_fRX11_173 (gD D_X11_judge_0 46 rfl) (fun o83 eo83 => ?_)
  replace hw := hw o83 eo83
  refine v_bipush X 19 (gD D_X11_judge_0 47 rfl) (by decide) ?_
  refine v_iload_n X 1 rfl (gD D_X11_judge_0 48 rfl) rfl ?_
  obtain ⟨a84, rfl, hw⟩ := hw
  refine v_callVi X (As := [.int 19, .int x1]) (rest := []) (nA := 2) 0 0 k77 n78 (fun ht => c_X1_at htr (ht.sub [0] rfl) hw) (Or.inl rfl) 0 (κ := 2) rfl (by decide) (rfl : gCl[1]? = some (RX1, TX1, 2)) lk_vRX11_176 (by decide +kernel) rfl rfl (by decide) (by decide) (by decide) rfl rfl (gD D_X11_judge_0 49 rfl) (fun x85 s86 hq _ _ => ?_)
  replace hw := hq
  clear hq
  exact v_X (v_iret X hr hw (gD D_X11_judge_0 50 rfl))
set_option maxRecDepth 100000 in
set_option maxHeartbeats 4000000 in
theorem c_X11_judge {l : Launch} {G : GX} (htr : l.stackTraces = false) {k n : Nat} {σ : St} {a0 : Nat} {x1 : Int32} {x2 : Int32} {x3 : Int32} {Q : Int32 → St → Prop} {Y : Nat → St → Prop} (ht : tvOk σ [(some a0, 12)]) (hw : w_X11_judge k n a0 x1 x2 x3 σ Q Y) : MIX l G 1 σ yX11_judge cX11_judge 4 (some .int) 4 k n [va_rf (some a0), .int x1, .int x2, .int x3] Q Y := by
  unfold w_X11_judge at hw
  refine m_startX RX11 (by decide) htr ht (Nat.le_of_ble_eq_true rfl) rfl (lv := [(0, va_rf (some a0)), (1, .int x1), (2, .int x2), (3, .int x3)]) (d := 1) (fun p e s m args below meth c X hr hin hex => ?_)
  refine v_aload_n X 0 rfl (gD D_X11_judge_0 0 rfl) rfl ?_
  refine v_iload_n X 1 rfl (gD D_X11_judge_0 1 rfl) rfl ?_
  refine v_callVi X (As := [.int x1]) (rest := []) (nA := 1) 0 0 k n (fun ht => c_X11_isLot htr (ht.sub [0] rfl) hw) (Or.inl rfl) 0 (κ := 12) rfl (by decide) (rfl : gCl[11]? = some (RX11, TX11, 19)) lk_vRX11_170 (by decide +kernel) rfl rfl (by decide) (by decide) (by decide) rfl rfl (gD D_X11_judge_0 2 rfl) (fun x51 s52 hq _ _ => ?_)
  replace hw := hq
  clear hq
  refine v_if_ne X 16 (gD D_X11_judge_0 3 rfl) (by decide) (fun c53 => ?_) (fun c53 => ?_)
  · replace hw := hw.1 c53
    refine v_iload_n X 2 rfl (gD D_X11_judge_0 8 rfl) rfl ?_
    refine v_iconst X 1 (gD D_X11_judge_0 9 rfl) (by decide) ?_
    refine v_bipush X 99 (gD D_X11_judge_0 10 rfl) (by decide) ?_
    refine v_callSi X (As := [.int x2, .int 1, .int 99]) (rest := []) (nA := 3) 0 0 k n (fun ht => c_X11_isWithin htr (ht.sub [] rfl) hw) (Or.inl rfl) lk_sRX11_86 (by decide +kernel) rfl rfl (by decide) (by decide) (by decide) rfl rfl (gD D_X11_judge_0 11 rfl) (fun x54 s55 hq _ _ => ?_)
    replace hw := hq
    clear hq
    refine v_if_ne X 34 (gD D_X11_judge_0 12 rfl) (by decide) (fun c56 => ?_) (fun c56 => ?_)
    · replace hw := hw.1 c56
      refine v_aload_n X 0 rfl (gD D_X11_judge_0 17 rfl) rfl ?_
      refine v_getR X RX11 TX11 19 12 11 (by decide) rfl gin11 9 1109 RX11 (Or.inl rfl) 0 1 rfl rfl rfl (by decide) lk_fRX11_52 (gD D_X11_judge_0 18 rfl) (fun o57 eo57 => ?_)
      replace hw := hw o57 eo57
      obtain ⟨a58, rfl, hw⟩ := hw
      refine v_getR X RX0 TX0 8 1 0 (by decide) rfl gin0 0 0 RX0 (Or.inl rfl) 0 2 rfl rfl rfl (by decide) lk_fRX11_173 (gD D_X11_judge_0 19 rfl) (fun o59 eo59 => ?_)
      replace hw := hw o59 eo59
      refine v_bipush X 19 (gD D_X11_judge_0 20 rfl) (by decide) ?_
      refine v_iload_n X 1 rfl (gD D_X11_judge_0 21 rfl) rfl ?_
      obtain ⟨a60, rfl, hw⟩ := hw
      refine v_callVi X (As := [.int 19, .int x1]) (rest := []) (nA := 2) 0 0 k n (fun ht => c_X1_at htr (ht.sub [0] rfl) hw) (Or.inl rfl) 0 (κ := 2) rfl (by decide) (rfl : gCl[1]? = some (RX1, TX1, 2)) lk_vRX11_176 (by decide +kernel) rfl rfl (by decide) (by decide) (by decide) rfl rfl (gD D_X11_judge_0 22 rfl) (fun x61 s62 hq _ _ => ?_)
      replace hw := hq
      clear hq
      refine v_iload_n X 2 rfl (gD D_X11_judge_0 23 rfl) rfl ?_
      refine v_icmp_ge X 59 (gD D_X11_judge_0 24 rfl) (by decide) (fun c63 => ?_) (fun c63 => ?_)
      · replace hw := hw.1 c63
        refine v_aload_n X 0 rfl (gD D_X11_judge_0 29 rfl) rfl ?_
        refine v_getR X RX11 TX11 19 12 11 (by decide) rfl gin11 9 1109 RX11 (Or.inl rfl) 2 1 rfl rfl rfl (by decide) lk_fRX11_52 (gD D_X11_judge_0 30 rfl) (fun o64 eo64 => ?_)
        replace hw := hw o64 eo64
        refine v_bipush X 19 (gD D_X11_judge_0 31 rfl) (by decide) ?_
        refine v_iload_n X 3 rfl (gD D_X11_judge_0 32 rfl) rfl ?_
        refine v_if_eq X 74 (gD D_X11_judge_0 33 rfl) (by decide) (fun c65 => ?_) (fun c65 => ?_)
        · replace hw := hw.1 c65
          refine v_iconst X (-1) (gD D_X11_judge_0 36 rfl) (by decide) ?_
          exact v_sub [3, 0] [0, 1, 2] rfl rfl (t_X11_judge_75 X hr hin htr hex  a0 x1 x2 o64 19 (-1) s62 k n hw)
        · replace hw := hw.2 c65
          refine v_bipush X 18 (gD D_X11_judge_0 34 rfl) (by decide) ?_
          refine v_goto X 75 (gD D_X11_judge_0 35 rfl) (by decide) ?_
          exact v_sub [3, 0] [0, 1, 2] rfl rfl (t_X11_judge_75 X hr hin htr hex  a0 x1 x2 o64 19 18 s62 k n hw)
      · replace hw := hw.2 c63
        exact v_throw X hex 3 (by decide +kernel) lk_xRX11_100 lk_xi_3 lk_xaRX11_102 lk_xgRX11_100_102 (gD D_X11_judge_0 25 rfl) (gD D_X11_judge_0 26 rfl) (gD D_X11_judge_0 27 rfl) (gD D_X11_judge_0 28 rfl) (by decide) hw
    · replace hw := hw.2 c56
      exact v_throw X hex 2 (by decide +kernel) lk_xRX11_90 lk_xi_2 lk_xaRX11_92 lk_xgRX11_90_92 (gD D_X11_judge_0 13 rfl) (gD D_X11_judge_0 14 rfl) (gD D_X11_judge_0 15 rfl) (gD D_X11_judge_0 16 rfl) (by decide) hw
  · replace hw := hw.2 c53
    exact v_throw X hex 1 (by decide +kernel) lk_xRX11_83 lk_xi_1 lk_xaRX11_85 lk_xgRX11_83_85 (gD D_X11_judge_0 4 rfl) (gD D_X11_judge_0 5 rfl) (gD D_X11_judge_0 6 rfl) (gD D_X11_judge_0 7 rfl) (by decide) hw
set_option maxRecDepth 100000 in
set_option maxHeartbeats 4000000 in
theorem t_X11_letGo_52 {p : Program} {l : Launch} {e : Env} {s : State} {m : MethodId} {args : Array Value} {below : List Frame} {meth : Method} {c : Code} {G : GX} {σ0 : St} {mc ms : Nat} {Q : St → Prop} (X : VC p l (rmD 4 mc ms) s m args meth c G 4 mc ms 5 RX11 cX11_letGo) (hr : meth.sig.returnType = none) (hin : meth.name = yX11_letGo.name) (htr : l.stackTraces = false) {K2 : Nat → Option Nat → Option Nat → Int32 → St → Prop} (hK2 : ∀ (a0 : Nat) (o1 : Option Nat) (o2 : Option Nat) (x3 : Int32) (σ : St), K2 a0 o1 o2 x3 σ → V p l e (rmD 4 mc ms) s m args below meth c (MQ below (va_Qv Q (gB G 1 σ0) (GA G)) args s mc ms (GA G)) G 1 σ0 mc ms 5 σ 0 0 [(some a0, 12), (o1, 8), (o2, 6)] 2 [(0, va_rf (some a0)), (1, va_rf o1), (2, va_rf o2), (3, .int x3)] []) : ∀ (a0 : Nat) (o1 : Option Nat) (o2 : Option Nat) (x3 : Int32) (a4 : Nat) (σ : St), w_X11_letGo_52 Q K2 a0 o1 o2 x3 a4 σ → V p l e (rmD 4 mc ms) s m args below meth c (MQ below (va_Qv Q (gB G 1 σ0) (GA G)) args s mc ms (GA G)) G 1 σ0 mc ms 5 σ 0 0 [(some a0, 12), (o1, 8), (o2, 6), (some a4, 3)] 52 [(0, va_rf (some a0)), (1, va_rf o1), (2, va_rf o2), (3, .int x3), (4, va_rf (some a4))] [] := by
  intro a0 o1 o2 x3 a4 σ hw
  unfold w_X11_letGo_52 at hw
  refine v_aload_n X 0 rfl (gD D_X11_letGo_0 24 rfl) rfl ?_
  refine v_aload X 4 rfl (gD D_X11_letGo_0 25 rfl) ?_
  refine v_aload X 4 rfl (gD D_X11_letGo_0 26 rfl) ?_
  refine v_getI X RX2 TX2 6 3 2 (by decide) rfl gin2 4 204 RX2 (Or.inl rfl) 3 rfl rfl (by decide) lk_fRX11_271 (gD D_X11_letGo_0 27 rfl) ?_
  refine v_callVv X (As := [va_rf (some a4), .int (sI σ 204 a4)]) (rest := []) (nA := 2) 0 0 0 0 (fun ht => c_X11_release htr (ht.sub [0, 3] rfl) hw) (Or.inl rfl) 0 (κ := 12) rfl (by decide) (rfl : gCl[11]? = some (RX11, TX11, 19)) lk_vRX11_432 (by decide +kernel) rfl rfl (by decide) (by decide) (by decide) rfl rfl (gD D_X11_letGo_0 28 rfl) (fun s70 hq _ _ => ?_)
  replace hw := hq
  clear hq
  refine v_aload X 4 rfl (gD D_X11_letGo_0 29 rfl) ?_
  refine v_getR X RX2 TX2 6 3 2 (by decide) rfl gin2 5 205 RX2 (Or.inl rfl) 3 11 rfl rfl rfl (by decide) lk_fRX11_418 (gD D_X11_letGo_0 30 rfl) (fun o71 eo71 => ?_)
  replace hw := hw o71 eo71
  refine v_ifnull X 80 (gD D_X11_letGo_0 31 rfl) (by decide) (fun c72 => ?_) (fun a73 c72 => ?_)
  · replace hw := hw.1 c72
    subst c72
    refine v_iinc X (x3 + 1) 3 rfl [(3, .int (x3 + 1)), (0, va_rf (some a0)), (1, va_rf o1), (2, va_rf o2), (4, va_rf (some a4))] (gD D_X11_letGo_0 36 rfl) rfl (by decide) (by simp [List.filter_cons, rf_cat]) ?_
    refine v_goto X 2 (gD D_X11_letGo_0 37 rfl) (by decide) ?_
    exact v_sub [1, 2, 3] [1, 2, 3, 0] rfl rfl (hK2 a0 o1 o2 (x3 + 1) s70 hw)
  · replace hw := hw.2 a73 c72
    subst c72
    refine v_aload X 4 rfl (gD D_X11_letGo_0 32 rfl) ?_
    refine v_getR X RX2 TX2 6 3 2 (by decide) rfl gin2 5 205 RX2 (Or.inl rfl) 4 11 rfl rfl rfl (by decide) lk_fRX11_418 (gD D_X11_letGo_0 33 rfl) (fun o74 eo74 => ?_)
    replace hw := hw o74 eo74
    refine v_iconst X 3 (gD D_X11_letGo_0 34 rfl) (by decide) ?_
    obtain ⟨a75, rfl, hw⟩ := hw
    refine v_putI X RX10 TX10 7 11 10 (by decide) rfl gin10 5 1005 tyX10 tyX10_ok nmX10 RX10 (Or.inl rfl) 0 rfl .int (int_fit _) rfl (by decide) (Or.inl rfl) lk_fRX11_292 rfl rfl (gD D_X11_letGo_0 35 rfl) (fun s76 es76 => ?_)
    replace hw := hw s76 es76
    refine v_iinc X (x3 + 1) 3 rfl [(3, .int (x3 + 1)), (0, va_rf (some a0)), (1, va_rf o1), (2, va_rf o2), (4, va_rf (some a4))] (gD D_X11_letGo_0 36 rfl) rfl (by decide) (by simp [List.filter_cons, rf_cat]) ?_
    refine v_goto X 2 (gD D_X11_letGo_0 37 rfl) (by decide) ?_
    exact v_sub [2, 3, 4] [1, 2, 3, 0] rfl rfl (hK2 a0 o1 o2 (x3 + 1) s76 hw)
set_option maxRecDepth 100000 in
set_option maxHeartbeats 4000000 in
theorem t_X11_letGo_2 {p : Program} {l : Launch} {e : Env} {s : State} {m : MethodId} {args : Array Value} {below : List Frame} {meth : Method} {c : Code} {G : GX} {σ0 : St} {mc ms : Nat} {Q : St → Prop} (X : VC p l (rmD 4 mc ms) s m args meth c G 4 mc ms 5 RX11 cX11_letGo) (hr : meth.sig.returnType = none) (hin : meth.name = yX11_letGo.name) (htr : l.stackTraces = false) : ∀ (f : Nat) (a0 : Nat) (o1 : Option Nat) (o2 : Option Nat) (x3 : Int32) (σ : St), w_X11_letGo_2 Q  f a0 o1 o2 x3 σ → V p l e (rmD 4 mc ms) s m args below meth c (MQ below (va_Qv Q (gB G 1 σ0) (GA G)) args s mc ms (GA G)) G 1 σ0 mc ms 5 σ 0 0 [(some a0, 12), (o1, 8), (o2, 6)] 2 [(0, va_rf (some a0)), (1, va_rf o1), (2, va_rf o2), (3, .int x3)] [] := by
  intro f
  induction f with
  | zero => intro a0 o1 o2 x3 σ hw; exact hw.elim
  | succ f ih =>
    intro a0 o1 o2 x3 σ hw
    unfold w_X11_letGo_2 at hw
    refine v_iload_n X 3 rfl (gD D_X11_letGo_0 2 rfl) rfl ?_
    refine v_aload_n X 0 rfl (gD D_X11_letGo_0 3 rfl) rfl ?_
    refine v_getR X RX11 TX11 19 12 11 (by decide) rfl gin11 7 1107 RX11 (Or.inl rfl) 0 30 rfl rfl rfl (by decide) lk_fRX11_43 (gD D_X11_letGo_0 4 rfl) (fun o51 eo51 => ?_)
    replace hw := hw o51 eo51
    obtain ⟨a52, rfl, hw⟩ := hw
    refine v_callVi X (As := []) (rest := [.int x3]) (nA := 0) 0 0 0 0 (fun ht => c_Jx4a65c_size_8abf5 htr (ht.sub [0] rfl) hw) (Or.inl rfl) 0 (κ := 30) rfl (by decide) (rfl : gCl[13]? = some (RJx4a65c, TJx4a65c, 3)) lk_vRX11_145 (by decide +kernel) rfl rfl (by simp [rf_cat, ct_i]) (by decide) (by decide) rfl rfl (gD D_X11_letGo_0 5 rfl) (fun x53 s54 hq _ _ => ?_)
    replace hw := hq
    clear hq
    refine v_icmp_ge X 86 (gD D_X11_letGo_0 6 rfl) (by decide) (fun c55 => ?_) (fun c55 => ?_)
    · replace hw := hw.1 c55
      refine v_aload_n X 0 rfl (gD D_X11_letGo_0 38 rfl) rfl ?_
      refine v_callVv X (As := []) (rest := []) (nA := 0) 0 0 0 0 (fun ht => c_X11_dropEmptyHoldings htr (ht.sub [1] rfl) hw) (Or.inl rfl) 1 (κ := 12) rfl (by decide) (rfl : gCl[11]? = some (RX11, TX11, 19)) lk_vRX11_436 (by decide +kernel) rfl rfl (by decide) (by decide) (by decide) rfl rfl (gD D_X11_letGo_0 39 rfl) (fun s57 hq _ _ => ?_)
      replace hw := hq
      clear hq
      exact v_vret X hr hw (gD D_X11_letGo_0 40 rfl)
    · replace hw := hw.2 c55
      refine v_aload_n X 0 rfl (gD D_X11_letGo_0 7 rfl) rfl ?_
      refine v_getR X RX11 TX11 19 12 11 (by decide) rfl gin11 7 1107 RX11 (Or.inl rfl) 1 30 rfl rfl rfl (by decide) lk_fRX11_43 (gD D_X11_letGo_0 8 rfl) (fun o58 eo58 => ?_)
      replace hw := hw o58 eo58
      refine v_iload_n X 3 rfl (gD D_X11_letGo_0 9 rfl) rfl ?_
      obtain ⟨a59, rfl, hw⟩ := hw
      refine v_callVu X (As := [.int x3]) (rest := []) (nA := 1) 0 0 0 0 (fun ht => c_Jx4a65c_get_915e3 htr (ht.sub [0] rfl) hw) (Or.inl rfl) 0 (κ := 30) rfl (by decide) (rfl : gCl[13]? = some (RJx4a65c, TJx4a65c, 3)) lk_vRX11_153 (by decide +kernel) rfl rfl (by decide) (by decide) (by decide) rfl rfl (gD D_X11_letGo_0 10 rfl) (fun o60 s61 hq _ _ => ?_)
      replace hw := hq
      clear hq
      obtain ⟨a62, rfl, hw⟩ := hw
      obtain ⟨h63, hw⟩ := hw
      refine v_cast X RX2 TX2 6 3 2 h63 (by decide) rfl lk_kRX11_262 (gD D_X11_letGo_0 11 rfl) ?_
      refine v_astore X [(4, va_rf (some a62)), (0, va_rf (some a0)), (1, va_rf o1), (2, va_rf o2), (3, .int x3)] (gD D_X11_letGo_0 12 rfl) (by decide) rfl ?_
      refine v_aload X 0 rfl (gD D_X11_letGo_0 13 rfl) ?_
      refine v_getR X RX2 TX2 6 3 2 (by decide) rfl gin2 0 200 RX2 (Or.inl rfl) 0 8 rfl rfl rfl (by decide) lk_fRX11_428 (gD D_X11_letGo_0 14 rfl) (fun o64 eo64 => ?_)
      replace hw := hw o64 eo64
      refine v_ifnull X 80 (gD D_X11_letGo_0 15 rfl) (by decide) (fun c65 => ?_) (fun a66 c65 => ?_)
      · replace hw := hw.1 c65
        subst c65
        refine v_iinc X (x3 + 1) 4 rfl [(3, .int (x3 + 1)), (4, va_rf (some a62)), (0, va_rf (some a0)), (1, va_rf o1), (2, va_rf o2)] (gD D_X11_letGo_0 36 rfl) rfl (by decide) (by simp [List.filter_cons, rf_cat]) ?_
        refine v_goto X 2 (gD D_X11_letGo_0 37 rfl) (by decide) ?_
        exact v_sub [4, 5, 6] [2, 3, 4, 0] rfl rfl (ih a0 o1 o2 (x3 + 1) s61 hw)
      · replace hw := hw.2 a66 c65
        subst c65
        refine v_aload X 0 rfl (gD D_X11_letGo_0 16 rfl) ?_
        refine v_getR X RX2 TX2 6 3 2 (by decide) rfl gin2 0 200 RX2 (Or.inl rfl) 1 8 rfl rfl rfl (by decide) lk_fRX11_428 (gD D_X11_letGo_0 17 rfl) (fun o67 eo67 => ?_)
        replace hw := hw o67 eo67
        refine v_aload_n X 2 rfl (gD D_X11_letGo_0 18 rfl) rfl ?_
        refine v_acmp_eq X 52 (gD D_X11_letGo_0 19 rfl) (by decide) (fun c68 => ?_) (fun c68 => ?_)
        · replace hw := hw.1 c68
          exact v_sub [5, 6, 7, 2] [1, 2, 3, 4, 0] rfl rfl (t_X11_letGo_52 X hr hin htr ih a0 o1 o2 x3 a62 s61 hw)
        · replace hw := hw.2 c68
          refine v_aload X 0 rfl (gD D_X11_letGo_0 20 rfl) ?_
          refine v_getR X RX2 TX2 6 3 2 (by decide) rfl gin2 3 203 RX2 (Or.inl rfl) 2 6 rfl rfl rfl (by decide) lk_fRX11_410 (gD D_X11_letGo_0 21 rfl) (fun o77 eo77 => ?_)
          replace hw := hw o77 eo77
          refine v_aload_n X 3 rfl (gD D_X11_letGo_0 22 rfl) rfl ?_
          refine v_acmp_ne X 80 (gD D_X11_letGo_0 23 rfl) (by decide) (fun c78 => ?_) (fun c78 => ?_)
          · replace hw := hw.1 c78
            refine v_iinc X (x3 + 1) 4 rfl [(3, .int (x3 + 1)), (4, va_rf (some a62)), (0, va_rf (some a0)), (1, va_rf o1), (2, va_rf o2)] (gD D_X11_letGo_0 36 rfl) rfl (by decide) (by simp [List.filter_cons, rf_cat]) ?_
            refine v_goto X 2 (gD D_X11_letGo_0 37 rfl) (by decide) ?_
            exact v_sub [6, 7, 8] [2, 3, 4, 0] rfl rfl (ih a0 o1 o2 (x3 + 1) s61 hw)
          · replace hw := hw.2 c78
            exact v_sub [6, 7, 8, 3] [1, 2, 3, 4, 0] rfl rfl (t_X11_letGo_52 X hr hin htr ih a0 o1 o2 x3 a62 s61 hw)
set_option maxRecDepth 100000 in
set_option maxHeartbeats 4000000 in
theorem c_X11_letGo {l : Launch} {G : GX} (htr : l.stackTraces = false) {σ : St} {a0 : Nat} {o1 : Option Nat} {o2 : Option Nat} {Q : St → Prop} (ht : tvOk σ [(some a0, 12), (o1, 8), (o2, 6)]) (hw : w_X11_letGo a0 o1 o2 σ Q) : MV l G 1 σ yX11_letGo cX11_letGo 5 4 0 0 [va_rf (some a0), va_rf o1, va_rf o2] Q := by
  unfold w_X11_letGo at hw
  refine m_start RX11 (by decide) htr ht (by simp [lg_sl, rf_cat, ct_i]) (by simp [lv_args, rf_cat, ct_i]) (lv := [(0, va_rf (some a0)), (1, va_rf o1), (2, va_rf o2)]) (d := 1) (fun p e s m args below meth c X hr hin => ?_)
  refine v_iconst X 0 (gD D_X11_letGo_0 0 rfl) (by decide) ?_
  refine v_istore_n X (i := 3) [(3, .int 0), (0, va_rf (some a0)), (1, va_rf o1), (2, va_rf o2)] (gD D_X11_letGo_0 1 rfl) rfl (by decide) (by simp [List.filter_cons, rf_cat]) ?_
  obtain ⟨f79, hw⟩ := hw
  exact v_sub [0, 1, 2] [1, 2, 3, 0] rfl rfl (t_X11_letGo_2 X hr hin htr  f79 a0 o1 o2 0 σ hw)
set_option maxRecDepth 100000 in
set_option maxHeartbeats 4000000 in
theorem c_X11_others {l : Launch} {G : GX} (htr : l.stackTraces = false) {k n : Nat} {σ : St} {a0 : Nat} {x1 : Int32} {Q : Int32 → St → Prop} {Y : Nat → St → Prop} (ht : tvOk σ [(some a0, 12)]) (hw : w_X11_others k n a0 x1 σ Q Y) : MIX l G 1 σ yX11_others cX11_others 2 (some .int) 4 k n [va_rf (some a0), .int x1] Q Y := by
  unfold w_X11_others at hw
  refine m_startX RX11 (by decide) htr ht (Nat.le_of_ble_eq_true rfl) rfl (lv := [(0, va_rf (some a0)), (1, .int x1)]) (d := 1) (fun p e s m args below meth c X hr hin hex => ?_)
  refine v_aload_n X 0 rfl (gD D_X11_others_0 0 rfl) rfl ?_
  refine v_iload_n X 1 rfl (gD D_X11_others_0 1 rfl) rfl ?_
  refine v_callVi X (As := [.int x1]) (rest := []) (nA := 1) 0 0 k n (fun ht => c_X11_isNotice htr (ht.sub [0] rfl) hw) (Or.inl rfl) 0 (κ := 12) rfl (by decide) (rfl : gCl[11]? = some (RX11, TX11, 19)) lk_vRX11_195 (by decide +kernel) rfl rfl (by decide) (by decide) (by decide) rfl rfl (gD D_X11_others_0 2 rfl) (fun x51 s52 hq _ _ => ?_)
  replace hw := hq
  clear hq
  refine v_if_ne X 16 (gD D_X11_others_0 3 rfl) (by decide) (fun c53 => ?_) (fun c53 => ?_)
  · replace hw := hw.1 c53
    refine v_aload_n X 0 rfl (gD D_X11_others_0 8 rfl) rfl ?_
    refine v_iload_n X 1 rfl (gD D_X11_others_0 9 rfl) rfl ?_
    refine v_iconst X 0 (gD D_X11_others_0 10 rfl) (by decide) ?_
    refine v_callVi X (As := [.int x1, .int 0]) (rest := []) (nA := 2) 0 0 k n (fun ht => c_X11_piecesThatCame htr (ht.sub [0] rfl) hw) (Or.inl rfl) 0 (κ := 12) rfl (by decide) (rfl : gCl[11]? = some (RX11, TX11, 19)) lk_vRX11_212 (by decide +kernel) rfl rfl (by decide) (by decide) (by decide) rfl rfl (gD D_X11_others_0 11 rfl) (fun x54 s55 hq _ _ => ?_)
    replace hw := hq
    clear hq
    exact v_X (v_iret X hr hw (gD D_X11_others_0 12 rfl))
  · replace hw := hw.2 c53
    exact v_throw X hex 1 (by decide +kernel) lk_xRX11_83 lk_xi_1 lk_xaRX11_85 lk_xgRX11_83_85 (gD D_X11_others_0 4 rfl) (gD D_X11_others_0 5 rfl) (gD D_X11_others_0 6 rfl) (gD D_X11_others_0 7 rfl) (by decide) hw
set_option maxRecDepth 100000 in
set_option maxHeartbeats 4000000 in
theorem c_X11_receive {l : Launch} {G : GX} (htr : l.stackTraces = false) {k n : Nat} {σ : St} {a0 : Nat} {x1 : Int32} {x2 : Int32} {x3 : Int32} {Q : Int32 → St → Prop} {Y : Nat → St → Prop} (ht : tvOk σ [(some a0, 12)]) (hw : w_X11_receive k n a0 x1 x2 x3 σ Q Y) : MIX l G 1 σ yX11_receive cX11_receive 4 (some .int) 4 k n [va_rf (some a0), .int x1, .int x2, .int x3] Q Y := by
  unfold w_X11_receive at hw
  refine m_startX RX11 (by decide) htr ht (Nat.le_of_ble_eq_true rfl) rfl (lv := [(0, va_rf (some a0)), (1, .int x1), (2, .int x2), (3, .int x3)]) (d := 1) (fun p e s m args below meth c X hr hin hex => ?_)
  refine v_aload_n X 0 rfl (gD D_X11_receive_0 0 rfl) rfl ?_
  refine v_iload_n X 1 rfl (gD D_X11_receive_0 1 rfl) rfl ?_
  refine v_callVi X (As := [.int x1]) (rest := []) (nA := 1) 0 0 k n (fun ht => c_X11_isNotice htr (ht.sub [0] rfl) hw) (Or.inl rfl) 0 (κ := 12) rfl (by decide) (rfl : gCl[11]? = some (RX11, TX11, 19)) lk_vRX11_195 (by decide +kernel) rfl rfl (by decide) (by decide) (by decide) rfl rfl (gD D_X11_receive_0 2 rfl) (fun x51 s52 hq _ _ => ?_)
  replace hw := hq
  clear hq
  refine v_if_eq X 16 (gD D_X11_receive_0 3 rfl) (by decide) (fun c53 => ?_) (fun c53 => ?_)
  · replace hw := hw.1 c53
    exact v_throw X hex 1 (by decide +kernel) lk_xRX11_83 lk_xi_1 lk_xaRX11_85 lk_xgRX11_83_85 (gD D_X11_receive_0 8 rfl) (gD D_X11_receive_0 9 rfl) (gD D_X11_receive_0 10 rfl) (gD D_X11_receive_0 11 rfl) (by decide) hw
  · replace hw := hw.2 c53
    refine v_aload_n X 0 rfl (gD D_X11_receive_0 4 rfl) rfl ?_
    refine v_iload_n X 2 rfl (gD D_X11_receive_0 5 rfl) rfl ?_
    refine v_callVi X (As := [.int x2]) (rest := []) (nA := 1) 0 0 k n (fun ht => c_X11_isLot htr (ht.sub [0] rfl) hw) (Or.inl rfl) 0 (κ := 12) rfl (by decide) (rfl : gCl[11]? = some (RX11, TX11, 19)) lk_vRX11_170 (by decide +kernel) rfl rfl (by decide) (by decide) (by decide) rfl rfl (gD D_X11_receive_0 6 rfl) (fun x54 s55 hq _ _ => ?_)
    replace hw := hq
    clear hq
    refine v_if_ne X 24 (gD D_X11_receive_0 7 rfl) (by decide) (fun c56 => ?_) (fun c56 => ?_)
    · replace hw := hw.1 c56
      refine v_iload_n X 3 rfl (gD D_X11_receive_0 12 rfl) rfl ?_
      refine v_iconst X 1 (gD D_X11_receive_0 13 rfl) (by decide) ?_
      refine v_bipush X 99 (gD D_X11_receive_0 14 rfl) (by decide) ?_
      refine v_callSi X (As := [.int x3, .int 1, .int 99]) (rest := []) (nA := 3) 0 0 k n (fun ht => c_X11_isWithin htr (ht.sub [] rfl) hw) (Or.inl rfl) lk_sRX11_86 (by decide +kernel) rfl rfl (by decide) (by decide) (by decide) rfl rfl (gD D_X11_receive_0 15 rfl) (fun x57 s58 hq _ _ => ?_)
      replace hw := hq
      clear hq
      refine v_if_ne X 42 (gD D_X11_receive_0 16 rfl) (by decide) (fun c59 => ?_) (fun c59 => ?_)
      · replace hw := hw.1 c59
        refine v_aload_n X 0 rfl (gD D_X11_receive_0 21 rfl) rfl ?_
        refine v_getR X RX11 TX11 19 12 11 (by decide) rfl gin11 5 1105 RX11 (Or.inl rfl) 0 30 rfl rfl rfl (by decide) lk_fRX11_37 (gD D_X11_receive_0 22 rfl) (fun o60 eo60 => ?_)
        replace hw := hw o60 eo60
        refine v_iload_n X 1 rfl (gD D_X11_receive_0 23 rfl) rfl ?_
        obtain ⟨a61, rfl, hw⟩ := hw
        refine v_callVu X (As := [.int x1]) (rest := []) (nA := 1) 0 0 k n (fun ht => c_Jx4a65c_get_915e3 htr (ht.sub [0] rfl) hw) (Or.inl rfl) 0 (κ := 30) rfl (by decide) (rfl : gCl[13]? = some (RJx4a65c, TJx4a65c, 3)) lk_vRX11_153 (by decide +kernel) rfl rfl (by decide) (by decide) (by decide) rfl rfl (gD D_X11_receive_0 24 rfl) (fun o62 s63 hq _ _ => ?_)
        replace hw := hq
        clear hq
        obtain ⟨a64, rfl, hw⟩ := hw
        obtain ⟨h65, hw⟩ := hw
        refine v_cast X RX6 TX6 3 7 6 h65 (by decide) rfl lk_kRX11_190 (gD D_X11_receive_0 25 rfl) ?_
        refine v_getI X RX6 TX6 3 7 6 (by decide) rfl gin6 2 602 RX6 (Or.inl rfl) 0 rfl rfl (by decide) lk_fRX11_198 (gD D_X11_receive_0 26 rfl) ?_
        refine v_if_eq X 67 (gD D_X11_receive_0 27 rfl) (by decide) (fun c66 => ?_) (fun c66 => ?_)
        · replace hw := hw.1 c66
          refine v_aload_n X 0 rfl (gD D_X11_receive_0 32 rfl) rfl ?_
          refine v_getR X RX11 TX11 19 12 11 (by decide) rfl gin11 10 1110 RX11 (Or.inl rfl) 2 2 rfl rfl rfl (by decide) lk_fRX11_61 (gD D_X11_receive_0 33 rfl) (fun o67 eo67 => ?_)
          replace hw := hw o67 eo67
          refine v_iload_n X 1 rfl (gD D_X11_receive_0 34 rfl) rfl ?_
          refine v_iload_n X 2 rfl (gD D_X11_receive_0 35 rfl) rfl ?_
          refine v_iload_n X 3 rfl (gD D_X11_receive_0 36 rfl) rfl ?_
          obtain ⟨a68, rfl, hw⟩ := hw
          refine v_callVv X (As := [.int x1, .int x2, .int x3]) (rest := []) (nA := 3) 0 0 k n (fun ht => c_X1_add htr (ht.sub [0] rfl) hw) (Or.inl rfl) 0 (κ := 2) rfl (by decide) (rfl : gCl[1]? = some (RX1, TX1, 2)) lk_vRX11_202 (by decide +kernel) rfl rfl (by decide) (by decide) (by decide) rfl rfl (gD D_X11_receive_0 37 rfl) (fun s70 hq _ _ => ?_)
          replace hw := hq
          clear hq
          refine v_aload_n X 0 rfl (gD D_X11_receive_0 38 rfl) rfl ?_
          refine v_getR X RX11 TX11 19 12 11 (by decide) rfl gin11 9 1109 RX11 (Or.inl rfl) 3 1 rfl rfl rfl (by decide) lk_fRX11_52 (gD D_X11_receive_0 39 rfl) (fun o71 eo71 => ?_)
          replace hw := hw o71 eo71
          refine v_iconst X (-1) (gD D_X11_receive_0 40 rfl) (by decide) ?_
          refine v_bipush X 18 (gD D_X11_receive_0 41 rfl) (by decide) ?_
          refine v_aload_n X 0 rfl (gD D_X11_receive_0 42 rfl) rfl ?_
          refine v_getR X RX11 TX11 19 12 11 (by decide) rfl gin11 3 1103 RX11 (Or.inl rfl) 4 30 rfl rfl rfl (by decide) lk_fRX11_30 (gD D_X11_receive_0 43 rfl) (fun o72 eo72 => ?_)
          replace hw := hw o72 eo72
          refine v_iload_n X 2 rfl (gD D_X11_receive_0 44 rfl) rfl ?_
          obtain ⟨a73, rfl, hw⟩ := hw
          refine v_callVu X (As := [.int x2]) (rest := [.int 18, .int (-1), va_rf o71]) (nA := 1) 0 0 k n (fun ht => c_Jx4a65c_get_915e3 htr (ht.sub [0] rfl) hw) (Or.inl rfl) 0 (κ := 30) rfl (by decide) (rfl : gCl[13]? = some (RJx4a65c, TJx4a65c, 3)) lk_vRX11_153 (by decide +kernel) rfl rfl (by simp [rf_cat, ct_i]) (by decide) (by decide) rfl rfl (gD D_X11_receive_0 45 rfl) (fun o74 s75 hq _ _ => ?_)
          replace hw := hq
          clear hq
          obtain ⟨a76, rfl, hw⟩ := hw
          obtain ⟨h77, hw⟩ := hw
          refine v_cast X RX5 TX5 4 6 5 h77 (by decide) rfl lk_kRX11_148 (gD D_X11_receive_0 46 rfl) ?_
          refine v_iload_n X 3 rfl (gD D_X11_receive_0 47 rfl) rfl ?_
          obtain ⟨a78, rfl, hw⟩ := hw
          obtain ⟨k81, n82, k83, n84, h85, h86, hw⟩ := hw
          refine v_callVv X (As := [.int (-1), .int 18, va_rf (some a76), .int x3]) (rest := []) (nA := 4) k81 n82 k83 n84 (fun ht => c_X0_move htr (ht.sub [2, 0] rfl) hw) (Or.inl rfl) 2 (κ := 1) rfl (by decide) (rfl : gCl[0]? = some (RX0, TX0, 8)) lk_vRX11_205 (by decide +kernel) rfl rfl (by decide) (by decide) (by decide) h85 h86 (gD D_X11_receive_0 48 rfl) (fun s80 hq _ _ => ?_)
          replace hw := hq
          clear hq
          refine v_aload_n X 0 rfl (gD D_X11_receive_0 49 rfl) rfl ?_
          refine v_dup X (gD D_X11_receive_0 50 rfl) (rf_cat _) ?_
          refine v_getI X RX11 TX11 19 12 11 (by decide) rfl gin11 18 1118 RX11 (Or.inl rfl) 6 rfl rfl (by decide) lk_fRX11_209 (gD D_X11_receive_0 51 rfl) ?_
          refine v_iconst X 2 (gD D_X11_receive_0 52 rfl) (by decide) ?_
          refine v_iload_n X 3 rfl (gD D_X11_receive_0 53 rfl) rfl ?_
          refine v_imul X (gD D_X11_receive_0 54 rfl) ?_
          refine v_iadd X (gD D_X11_receive_0 55 rfl) ?_
          refine v_putI X RX11 TX11 19 12 11 (by decide) rfl gin11 18 1118 tyX11 tyX11_ok nmX11 RX11 (Or.inl rfl) 6 rfl .int (int_fit _) rfl (by decide) (Or.inl rfl) lk_fRX11_209 rfl rfl (gD D_X11_receive_0 56 rfl) (fun s87 es87 => ?_)
          replace hw := hw s87 es87
          refine v_aload_n X 0 rfl (gD D_X11_receive_0 57 rfl) rfl ?_
          refine v_getR X RX11 TX11 19 12 11 (by decide) rfl gin11 9 1109 RX11 (Or.inl rfl) 6 1 rfl rfl rfl (by decide) lk_fRX11_52 (gD D_X11_receive_0 58 rfl) (fun o88 eo88 => ?_)
          replace hw := hw o88 eo88
          obtain ⟨a89, rfl, hw⟩ := hw
          refine v_getR X RX0 TX0 8 1 0 (by decide) rfl gin0 0 0 RX0 (Or.inl rfl) 0 2 rfl rfl rfl (by decide) lk_fRX11_173 (gD D_X11_receive_0 59 rfl) (fun o90 eo90 => ?_)
          replace hw := hw o90 eo90
          refine v_bipush X 18 (gD D_X11_receive_0 60 rfl) (by decide) ?_
          refine v_iload_n X 2 rfl (gD D_X11_receive_0 61 rfl) rfl ?_
          obtain ⟨a91, rfl, hw⟩ := hw
          refine v_callVi X (As := [.int 18, .int x2]) (rest := []) (nA := 2) 0 0 k83 n84 (fun ht => c_X1_at htr (ht.sub [0] rfl) hw) (Or.inl rfl) 0 (κ := 2) rfl (by decide) (rfl : gCl[1]? = some (RX1, TX1, 2)) lk_vRX11_176 (by decide +kernel) rfl rfl (by decide) (by decide) (by decide) rfl rfl (gD D_X11_receive_0 62 rfl) (fun x92 s93 hq _ _ => ?_)
          replace hw := hq
          clear hq
          exact v_X (v_iret X hr hw (gD D_X11_receive_0 63 rfl))
        · replace hw := hw.2 c66
          exact v_throw X hex 3 (by decide +kernel) lk_xRX11_100 lk_xi_3 lk_xaRX11_102 lk_xgRX11_100_102 (gD D_X11_receive_0 28 rfl) (gD D_X11_receive_0 29 rfl) (gD D_X11_receive_0 30 rfl) (gD D_X11_receive_0 31 rfl) (by decide) hw
      · replace hw := hw.2 c59
        exact v_throw X hex 2 (by decide +kernel) lk_xRX11_90 lk_xi_2 lk_xaRX11_92 lk_xgRX11_90_92 (gD D_X11_receive_0 17 rfl) (gD D_X11_receive_0 18 rfl) (gD D_X11_receive_0 19 rfl) (gD D_X11_receive_0 20 rfl) (by decide) hw
    · replace hw := hw.2 c56
      exact v_throw X hex 1 (by decide +kernel) lk_xRX11_83 lk_xi_1 lk_xaRX11_85 lk_xgRX11_83_85 (gD D_X11_receive_0 8 rfl) (gD D_X11_receive_0 9 rfl) (gD D_X11_receive_0 10 rfl) (gD D_X11_receive_0 11 rfl) (by decide) hw
set_option maxRecDepth 100000 in
set_option maxHeartbeats 4000000 in
theorem t_X11_sendStand_4 {p : Program} {l : Launch} {e : Env} {s : State} {m : MethodId} {args : Array Value} {below : List Frame} {meth : Method} {c : Code} {G : GX} {σ0 : St} {mc ms : Nat} {Q : Int32 → St → Prop} (X : VC p l (rmD 4 mc ms) s m args meth c G 4 mc ms 6 RX11 cX11_sendStand) (hr : meth.sig.returnType = (some .int)) (hin : meth.name = yX11_sendStand.name) (htr : l.stackTraces = false) : ∀ (f : Nat) (a0 : Nat) (x1 : Int32) (x2 : Int32) (x3 : Int32) (σ : St) (k n : Nat), w_X11_sendStand_4 Q  f a0 x1 x2 x3 σ k n → V p l e (rmD 4 mc ms) s m args below meth c (MQ below (va_Qi Q (gB G 1 σ0) (GA G)) args s mc ms (GA G)) G 1 σ0 mc ms 6 σ k n [(some a0, 12)] 4 [(0, va_rf (some a0)), (1, .int x1), (2, .int x2), (3, .int x3)] [] := by
  intro f
  induction f with
  | zero => intro a0 x1 x2 x3 σ k n hw; exact hw.elim
  | succ f ih =>
    intro a0 x1 x2 x3 σ k n hw
    unfold w_X11_sendStand_4 at hw
    refine v_iload_n X 3 rfl (gD D_X11_sendStand_0 4 rfl) rfl ?_
    refine v_aload_n X 0 rfl (gD D_X11_sendStand_0 5 rfl) rfl ?_
    refine v_getR X RX11 TX11 19 12 11 (by decide) rfl gin11 3 1103 RX11 (Or.inl rfl) 0 30 rfl rfl rfl (by decide) lk_fRX11_30 (gD D_X11_sendStand_0 6 rfl) (fun o51 eo51 => ?_)
    replace hw := hw o51 eo51
    obtain ⟨a52, rfl, hw⟩ := hw
    refine v_callVi X (As := []) (rest := [.int x3]) (nA := 0) 0 0 k n (fun ht => c_Jx4a65c_size_8abf5 htr (ht.sub [0] rfl) hw) (Or.inl rfl) 0 (κ := 30) rfl (by decide) (rfl : gCl[13]? = some (RJx4a65c, TJx4a65c, 3)) lk_vRX11_145 (by decide +kernel) rfl rfl (by simp [rf_cat, ct_i]) (by decide) (by decide) rfl rfl (gD D_X11_sendStand_0 7 rfl) (fun x53 s54 hq _ _ => ?_)
    replace hw := hq
    clear hq
    refine v_icmp_ge X 101 (gD D_X11_sendStand_0 8 rfl) (by decide) (fun c55 => ?_) (fun c55 => ?_)
    · replace hw := hw.1 c55
      refine v_iload_n X 2 rfl (gD D_X11_sendStand_0 53 rfl) rfl ?_
      exact v_iret X hr hw (gD D_X11_sendStand_0 54 rfl)
    · replace hw := hw.2 c55
      refine v_aload_n X 0 rfl (gD D_X11_sendStand_0 9 rfl) rfl ?_
      refine v_getR X RX11 TX11 19 12 11 (by decide) rfl gin11 3 1103 RX11 (Or.inl rfl) 1 30 rfl rfl rfl (by decide) lk_fRX11_30 (gD D_X11_sendStand_0 10 rfl) (fun o56 eo56 => ?_)
      replace hw := hw o56 eo56
      refine v_iload_n X 3 rfl (gD D_X11_sendStand_0 11 rfl) rfl ?_
      obtain ⟨a57, rfl, hw⟩ := hw
      refine v_callVu X (As := [.int x3]) (rest := []) (nA := 1) 0 0 k n (fun ht => c_Jx4a65c_get_915e3 htr (ht.sub [0] rfl) hw) (Or.inl rfl) 0 (κ := 30) rfl (by decide) (rfl : gCl[13]? = some (RJx4a65c, TJx4a65c, 3)) lk_vRX11_153 (by decide +kernel) rfl rfl (by decide) (by decide) (by decide) rfl rfl (gD D_X11_sendStand_0 12 rfl) (fun o58 s59 hq _ _ => ?_)
      replace hw := hq
      clear hq
      obtain ⟨a60, rfl, hw⟩ := hw
      obtain ⟨h61, hw⟩ := hw
      refine v_cast X RX5 TX5 4 6 5 h61 (by decide) rfl lk_kRX11_148 (gD D_X11_sendStand_0 13 rfl) ?_
      refine v_astore X [(4, va_rf (some a60)), (0, va_rf (some a0)), (1, .int x1), (2, .int x2), (3, .int x3)] (gD D_X11_sendStand_0 14 rfl) (by decide) rfl ?_
      refine v_aload_n X 1 rfl (gD D_X11_sendStand_0 15 rfl) rfl ?_
      refine v_getR X RX11 TX11 19 12 11 (by decide) rfl gin11 9 1109 RX11 (Or.inl rfl) 3 1 rfl rfl rfl (by decide) lk_fRX11_52 (gD D_X11_sendStand_0 16 rfl) (fun o62 eo62 => ?_)
      replace hw := hw o62 eo62
      obtain ⟨a63, rfl, hw⟩ := hw
      refine v_getR X RX0 TX0 8 1 0 (by decide) rfl gin0 0 0 RX0 (Or.inl rfl) 0 2 rfl rfl rfl (by decide) lk_fRX11_173 (gD D_X11_sendStand_0 17 rfl) (fun o64 eo64 => ?_)
      replace hw := hw o64 eo64
      refine v_bipush X 20 (gD D_X11_sendStand_0 18 rfl) (by decide) ?_
      refine v_iload_n X 2 rfl (gD D_X11_sendStand_0 19 rfl) rfl ?_
      refine v_iadd X (gD D_X11_sendStand_0 20 rfl) ?_
      refine v_iload_n X 4 rfl (gD D_X11_sendStand_0 21 rfl) rfl ?_
      obtain ⟨a65, rfl, hw⟩ := hw
      refine v_callVi X (As := [.int (20 + x1), .int x3]) (rest := []) (nA := 2) 0 0 k n (fun ht => c_X1_at htr (ht.sub [0] rfl) hw) (Or.inl rfl) 0 (κ := 2) rfl (by decide) (rfl : gCl[1]? = some (RX1, TX1, 2)) lk_vRX11_176 (by decide +kernel) rfl rfl (by decide) (by decide) (by decide) rfl rfl (gD D_X11_sendStand_0 22 rfl) (fun x66 s67 hq _ _ => ?_)
      replace hw := hq
      clear hq
      refine v_istore X [(5, .int x66), (4, va_rf (some a60)), (0, va_rf (some a0)), (1, .int x1), (2, .int x2), (3, .int x3)] (gD D_X11_sendStand_0 23 rfl) (by decide) rfl ?_
      refine v_aload_n X 2 rfl (gD D_X11_sendStand_0 24 rfl) rfl ?_
      refine v_getR X RX11 TX11 19 12 11 (by decide) rfl gin11 12 1112 RX11 (Or.inl rfl) 5 2 rfl rfl rfl (by decide) lk_fRX11_68 (gD D_X11_sendStand_0 25 rfl) (fun o68 eo68 => ?_)
      replace hw := hw o68 eo68
      refine v_iload_n X 3 rfl (gD D_X11_sendStand_0 26 rfl) rfl ?_
      refine v_aload X 1 rfl (gD D_X11_sendStand_0 27 rfl) ?_
      refine v_getR X RX5 TX5 4 6 5 (by decide) rfl gin5 1 501 RX5 (Or.inl rfl) 3 4 rfl rfl rfl (by decide) lk_fRX11_368 (gD D_X11_sendStand_0 28 rfl) (fun o69 eo69 => ?_)
      replace hw := hw o69 eo69
      obtain ⟨a70, rfl, hw⟩ := hw
      refine v_getI X RX3 TX3 6 4 3 (by decide) rfl gin3 0 300 RX3 (Or.inl rfl) 0 rfl rfl (by decide) lk_fRX11_378 (gD D_X11_sendStand_0 29 rfl) ?_
      refine v_iload X 0 rfl (gD D_X11_sendStand_0 30 rfl) ?_
      obtain ⟨a71, rfl, hw⟩ := hw
      refine v_callVv X (As := [.int x1, .int (sI s67 300 a70), .int x66]) (rest := []) (nA := 3) 0 0 k n (fun ht => c_X1_add htr (ht.sub [1] rfl) hw) (Or.inl rfl) 1 (κ := 2) rfl (by decide) (rfl : gCl[1]? = some (RX1, TX1, 2)) lk_vRX11_202 (by decide +kernel) rfl rfl (by decide) (by decide) (by decide) rfl rfl (gD D_X11_sendStand_0 31 rfl) (fun s73 hq _ _ => ?_)
      replace hw := hq
      clear hq
      refine v_aload_n X 2 rfl (gD D_X11_sendStand_0 32 rfl) rfl ?_
      refine v_getR X RX11 TX11 19 12 11 (by decide) rfl gin11 11 1111 RX11 (Or.inl rfl) 7 2 rfl rfl rfl (by decide) lk_fRX11_65 (gD D_X11_sendStand_0 33 rfl) (fun o74 eo74 => ?_)
      replace hw := hw o74 eo74
      refine v_iload_n X 3 rfl (gD D_X11_sendStand_0 34 rfl) rfl ?_
      refine v_iload_n X 5 rfl (gD D_X11_sendStand_0 35 rfl) rfl ?_
      refine v_iload X 0 rfl (gD D_X11_sendStand_0 36 rfl) ?_
      obtain ⟨a75, rfl, hw⟩ := hw
      refine v_callVv X (As := [.int x1, .int x3, .int x66]) (rest := []) (nA := 3) 0 0 k n (fun ht => c_X1_add htr (ht.sub [0] rfl) hw) (Or.inl rfl) 0 (κ := 2) rfl (by decide) (rfl : gCl[1]? = some (RX1, TX1, 2)) lk_vRX11_202 (by decide +kernel) rfl rfl (by decide) (by decide) (by decide) rfl rfl (gD D_X11_sendStand_0 37 rfl) (fun s77 hq _ _ => ?_)
      replace hw := hq
      clear hq
      refine v_aload_n X 2 rfl (gD D_X11_sendStand_0 38 rfl) rfl ?_
      refine v_getR X RX11 TX11 19 12 11 (by decide) rfl gin11 9 1109 RX11 (Or.inl rfl) 8 1 rfl rfl rfl (by decide) lk_fRX11_52 (gD D_X11_sendStand_0 39 rfl) (fun o78 eo78 => ?_)
      replace hw := hw o78 eo78
      refine v_bipush X 20 (gD D_X11_sendStand_0 40 rfl) (by decide) ?_
      refine v_iload_n X 3 rfl (gD D_X11_sendStand_0 41 rfl) rfl ?_
      refine v_iadd X (gD D_X11_sendStand_0 42 rfl) ?_
      refine v_iconst X (-1) (gD D_X11_sendStand_0 43 rfl) (by decide) ?_
      refine v_aload X 1 rfl (gD D_X11_sendStand_0 44 rfl) ?_
      refine v_iload X 0 rfl (gD D_X11_sendStand_0 45 rfl) ?_
      obtain ⟨a79, rfl, hw⟩ := hw
      obtain ⟨k82, n83, k84, n85, h86, h87, hw⟩ := hw
      refine v_callVv X (As := [.int (20 + x1), .int (-1), va_rf (some a60), .int x66]) (rest := []) (nA := 4) k82 n83 k84 n85 (fun ht => c_X0_move htr (ht.sub [0, 6] rfl) hw) (Or.inl rfl) 0 (κ := 1) rfl (by decide) (rfl : gCl[0]? = some (RX0, TX0, 8)) lk_vRX11_205 (by decide +kernel) rfl rfl (by decide) (by decide) (by decide) h86 h87 (gD D_X11_sendStand_0 46 rfl) (fun s81 hq _ _ => ?_)
      replace hw := hq
      clear hq
      refine v_iload_n X 4 rfl (gD D_X11_sendStand_0 47 rfl) rfl ?_
      refine v_iload X 0 rfl (gD D_X11_sendStand_0 48 rfl) ?_
      refine v_iadd X (gD D_X11_sendStand_0 49 rfl) ?_
      refine v_topi (fun x88 ex88 => ?_)
      replace hw := hw x88 ex88
      refine v_istore_n X [(2, .int x88), (5, .int x66), (4, va_rf (some a60)), (0, va_rf (some a0)), (1, .int x1), (3, .int x3)] (gD D_X11_sendStand_0 50 rfl) rfl (by decide) rfl ?_
      refine v_iinc X (x3 + 1) 5 rfl [(3, .int (x3 + 1)), (2, .int x88), (5, .int x66), (4, va_rf (some a60)), (0, va_rf (some a0)), (1, .int x1)] (gD D_X11_sendStand_0 51 rfl) rfl (by decide) rfl ?_
      refine v_goto X 4 (gD D_X11_sendStand_0 52 rfl) (by decide) ?_
      exact v_sub [9] [4, 5, 1, 0] rfl rfl (ih a0 x1 x88 (x3 + 1) s81 k84 n85 hw)
set_option maxRecDepth 100000 in
set_option maxHeartbeats 4000000 in
theorem c_X11_sendStand {l : Launch} {G : GX} (htr : l.stackTraces = false) {k n : Nat} {σ : St} {a0 : Nat} {x1 : Int32} {Q : Int32 → St → Prop} (ht : tvOk σ [(some a0, 12)]) (hw : w_X11_sendStand k n a0 x1 σ Q) : MI l G 1 σ yX11_sendStand cX11_sendStand 6 (some .int) 4 k n [va_rf (some a0), .int x1] Q := by
  unfold w_X11_sendStand at hw
  refine m_start RX11 (by decide) htr ht (Nat.le_of_ble_eq_true rfl) rfl (lv := [(0, va_rf (some a0)), (1, .int x1)]) (d := 1) (fun p e s m args below meth c X hr hin => ?_)
  refine v_iconst X 0 (gD D_X11_sendStand_0 0 rfl) (by decide) ?_
  refine v_istore_n X [(2, .int 0), (0, va_rf (some a0)), (1, .int x1)] (gD D_X11_sendStand_0 1 rfl) rfl (by decide) rfl ?_
  refine v_iconst X 0 (gD D_X11_sendStand_0 2 rfl) (by decide) ?_
  refine v_istore_n X [(3, .int 0), (2, .int 0), (0, va_rf (some a0)), (1, .int x1)] (gD D_X11_sendStand_0 3 rfl) rfl (by decide) rfl ?_
  obtain ⟨f89, hw⟩ := hw
  exact v_sub [0] [2, 3, 1, 0] rfl rfl (t_X11_sendStand_4 X hr hin htr  f89 a0 x1 0 0 σ k n hw)
set_option maxRecDepth 100000 in
set_option maxHeartbeats 4000000 in
theorem t_X11_shorten_55 {p : Program} {l : Launch} {e : Env} {s : State} {m : MethodId} {args : Array Value} {below : List Frame} {meth : Method} {c : Code} {G : GX} {σ0 : St} {mc ms : Nat} {Q : St → Prop} (X : VC p l (rmD 4 mc ms) s m args meth c G 4 mc ms 8 RX11 cX11_shorten) (hr : meth.sig.returnType = none) (hin : meth.name = yX11_shorten.name) (htr : l.stackTraces = false) {K45 : Nat → Int32 → Nat → Option Nat → Int32 → Int32 → St → Nat → Nat → Prop} (hK45 : ∀ (a0 : Nat) (x1 : Int32) (a2 : Nat) (o3 : Option Nat) (x4 : Int32) (x5 : Int32) (σ : St) (k n : Nat), K45 a0 x1 a2 o3 x4 x5 σ k n → V p l e (rmD 4 mc ms) s m args below meth c (MQ below (va_Qv Q (gB G 1 σ0) (GA G)) args s mc ms (GA G)) G 1 σ0 mc ms 8 σ k n [(some a0, 12), (some a2, 6), (o3, 3)] 45 [(0, va_rf (some a0)), (1, .int x1), (2, va_rf (some a2)), (3, va_rf o3), (4, .int x4), (5, .int x5)] []) : ∀ (f : Nat) (a0 : Nat) (x1 : Int32) (a2 : Nat) (o3 : Option Nat) (x4 : Int32) (x5 : Int32) (x6 : Int32) (σ : St) (k n : Nat), w_X11_shorten_55 Q K45 f a0 x1 a2 o3 x4 x5 x6 σ k n → V p l e (rmD 4 mc ms) s m args below meth c (MQ below (va_Qv Q (gB G 1 σ0) (GA G)) args s mc ms (GA G)) G 1 σ0 mc ms 8 σ k n [(some a0, 12), (some a2, 6), (o3, 3)] 55 [(0, va_rf (some a0)), (1, .int x1), (2, va_rf (some a2)), (3, va_rf o3), (4, .int x4), (5, .int x5), (6, .int x6)] [] := by
  intro f
  induction f with
  | zero => intro a0 x1 a2 o3 x4 x5 x6 σ k n hw; exact hw.elim
  | succ f ih =>
    intro a0 x1 a2 o3 x4 x5 x6 σ k n hw
    unfold w_X11_shorten_55 at hw
    refine v_iload X 6 rfl (gD D_X11_shorten_0 29 rfl) ?_
    refine v_aload_n X 0 rfl (gD D_X11_shorten_0 30 rfl) rfl ?_
    refine v_getR X RX11 TX11 19 12 11 (by decide) rfl gin11 7 1107 RX11 (Or.inl rfl) 0 30 rfl rfl rfl (by decide) lk_fRX11_43 (gD D_X11_shorten_0 31 rfl) (fun o72 eo72 => ?_)
    replace hw := hw o72 eo72
    obtain ⟨a73, rfl, hw⟩ := hw
    refine v_callVi X (As := []) (rest := [.int x6]) (nA := 0) 0 0 k n (fun ht => c_Jx4a65c_size_8abf5 htr (ht.sub [0] rfl) hw) (Or.inl rfl) 0 (κ := 30) rfl (by decide) (rfl : gCl[13]? = some (RJx4a65c, TJx4a65c, 3)) lk_vRX11_145 (by decide +kernel) rfl rfl (by simp [rf_cat, ct_i]) (by decide) (by decide) rfl rfl (gD D_X11_shorten_0 32 rfl) (fun x74 s75 hq _ _ => ?_)
    replace hw := hq
    clear hq
    refine v_icmp_ge X 126 (gD D_X11_shorten_0 33 rfl) (by decide) (fun c76 => ?_) (fun c76 => ?_)
    · replace hw := hw.1 c76
      refine v_iinc X (x5 + 1) 5 rfl [(5, .int (x5 + 1)), (0, va_rf (some a0)), (1, .int x1), (2, va_rf (some a2)), (3, va_rf o3), (4, .int x4), (6, .int x6)] (gD D_X11_shorten_0 61 rfl) rfl (by decide) rfl ?_
      refine v_goto X 45 (gD D_X11_shorten_0 62 rfl) (by decide) ?_
      exact v_sub [1, 2, 3] [1, 2, 3, 4, 5, 0] rfl rfl (hK45 a0 x1 a2 o3 x4 (x5 + 1) s75 k n hw)
    · replace hw := hw.2 c76
      refine v_aload_n X 0 rfl (gD D_X11_shorten_0 34 rfl) rfl ?_
      refine v_getR X RX11 TX11 19 12 11 (by decide) rfl gin11 7 1107 RX11 (Or.inl rfl) 1 30 rfl rfl rfl (by decide) lk_fRX11_43 (gD D_X11_shorten_0 35 rfl) (fun o77 eo77 => ?_)
      replace hw := hw o77 eo77
      refine v_iload X 6 rfl (gD D_X11_shorten_0 36 rfl) ?_
      obtain ⟨a78, rfl, hw⟩ := hw
      refine v_callVu X (As := [.int x6]) (rest := []) (nA := 1) 0 0 k n (fun ht => c_Jx4a65c_get_915e3 htr (ht.sub [0] rfl) hw) (Or.inl rfl) 0 (κ := 30) rfl (by decide) (rfl : gCl[13]? = some (RJx4a65c, TJx4a65c, 3)) lk_vRX11_153 (by decide +kernel) rfl rfl (by decide) (by decide) (by decide) rfl rfl (gD D_X11_shorten_0 37 rfl) (fun o79 s80 hq _ _ => ?_)
      replace hw := hq
      clear hq
      obtain ⟨a81, rfl, hw⟩ := hw
      obtain ⟨h82, hw⟩ := hw
      refine v_cast X RX2 TX2 6 3 2 h82 (by decide) rfl lk_kRX11_262 (gD D_X11_shorten_0 38 rfl) ?_
      refine v_astore X [(7, va_rf (some a81)), (0, va_rf (some a0)), (1, .int x1), (2, va_rf (some a2)), (3, va_rf o3), (4, .int x4), (5, .int x5), (6, .int x6)] (gD D_X11_shorten_0 39 rfl) (by decide) rfl ?_
      refine v_aload X 0 rfl (gD D_X11_shorten_0 40 rfl) ?_
      refine v_aload_n X 4 rfl (gD D_X11_shorten_0 41 rfl) rfl ?_
      refine v_acmp_eq X 120 (gD D_X11_shorten_0 42 rfl) (by decide) (fun c83 => ?_) (fun c83 => ?_)
      · replace hw := hw.1 c83
        refine v_iinc X (x6 + 1) 7 rfl [(6, .int (x6 + 1)), (7, va_rf (some a81)), (0, va_rf (some a0)), (1, .int x1), (2, va_rf (some a2)), (3, va_rf o3), (4, .int x4), (5, .int x5)] (gD D_X11_shorten_0 59 rfl) rfl (by decide) rfl ?_
        refine v_goto X 55 (gD D_X11_shorten_0 60 rfl) (by decide) ?_
        exact v_sub [3, 4, 5] [2, 3, 4, 5, 6, 7, 0] rfl rfl (ih a0 x1 a2 o3 x4 x5 (x6 + 1) s80 k n hw)
      · replace hw := hw.2 c83
        refine v_aload X 0 rfl (gD D_X11_shorten_0 43 rfl) ?_
        refine v_callVi X (As := []) (rest := []) (nA := 0) 0 0 k n (fun ht => c_X2_turn htr (ht.sub [0] rfl) hw) (Or.inl rfl) 0 (κ := 3) rfl (by decide) (rfl : gCl[2]? = some (RX2, TX2, 6)) lk_vRX11_264 (by decide +kernel) rfl rfl (by decide) (by decide) (by decide) rfl rfl (gD D_X11_shorten_0 44 rfl) (fun x84 s85 hq _ _ => ?_)
        replace hw := hq
        clear hq
        refine v_iload X 6 rfl (gD D_X11_shorten_0 45 rfl) ?_
        refine v_icmp_ne X 120 (gD D_X11_shorten_0 46 rfl) (by decide) (fun c86 => ?_) (fun c86 => ?_)
        · replace hw := hw.1 c86
          refine v_iinc X (x6 + 1) 7 rfl [(6, .int (x6 + 1)), (7, va_rf (some a81)), (0, va_rf (some a0)), (1, .int x1), (2, va_rf (some a2)), (3, va_rf o3), (4, .int x4), (5, .int x5)] (gD D_X11_shorten_0 59 rfl) rfl (by decide) rfl ?_
          refine v_goto X 55 (gD D_X11_shorten_0 60 rfl) (by decide) ?_
          exact v_sub [3, 4, 5] [2, 3, 4, 5, 6, 7, 0] rfl rfl (ih a0 x1 a2 o3 x4 x5 (x6 + 1) s85 k n hw)
        · replace hw := hw.2 c86
          refine v_aload X 0 rfl (gD D_X11_shorten_0 47 rfl) ?_
          refine v_iload_n X 2 rfl (gD D_X11_shorten_0 48 rfl) rfl ?_
          refine v_aload_n X 3 rfl (gD D_X11_shorten_0 49 rfl) rfl ?_
          refine v_callVi X (As := [.int x1, va_rf (some a2)]) (rest := []) (nA := 2) 0 0 k n (fun ht => c_X2_isOf htr (ht.sub [0, 4] rfl) hw) (Or.inl rfl) 0 (κ := 3) rfl (by decide) (rfl : gCl[2]? = some (RX2, TX2, 6)) lk_vRX11_267 (by decide +kernel) rfl rfl (by decide) (by decide) (by decide) rfl rfl (gD D_X11_shorten_0 50 rfl) (fun x87 s88 hq _ _ => ?_)
          replace hw := hq
          clear hq
          refine v_if_eq X 120 (gD D_X11_shorten_0 51 rfl) (by decide) (fun c89 => ?_) (fun c89 => ?_)
          · replace hw := hw.1 c89
            refine v_iinc X (x6 + 1) 7 rfl [(6, .int (x6 + 1)), (7, va_rf (some a81)), (0, va_rf (some a0)), (1, .int x1), (2, va_rf (some a2)), (3, va_rf o3), (4, .int x4), (5, .int x5)] (gD D_X11_shorten_0 59 rfl) rfl (by decide) rfl ?_
            refine v_goto X 55 (gD D_X11_shorten_0 60 rfl) (by decide) ?_
            exact v_sub [3, 4, 5] [2, 3, 4, 5, 6, 7, 0] rfl rfl (ih a0 x1 a2 o3 x4 x5 (x6 + 1) s88 k n hw)
          · replace hw := hw.2 c89
            refine v_iload X 5 rfl (gD D_X11_shorten_0 52 rfl) ?_
            refine v_aload_n X 1 rfl (gD D_X11_shorten_0 53 rfl) rfl ?_
            refine v_aload X 0 rfl (gD D_X11_shorten_0 54 rfl) ?_
            refine v_iload X 5 rfl (gD D_X11_shorten_0 55 rfl) ?_
            refine v_callVi X (As := [va_rf (some a81), .int x4]) (rest := [.int x4]) (nA := 2) 0 0 k n (fun ht => c_X11_cut htr (ht.sub [3, 0] rfl) hw) (Or.inl rfl) 3 (κ := 12) rfl (by decide) (rfl : gCl[11]? = some (RX11, TX11, 19)) lk_vRX11_439 (by decide +kernel) rfl rfl (by simp [rf_cat, ct_i]) (by decide) (by decide) rfl rfl (gD D_X11_shorten_0 56 rfl) (fun x90 s91 hq _ _ => ?_)
            replace hw := hq
            clear hq
            refine v_isub X (gD D_X11_shorten_0 57 rfl) ?_
            refine v_topi (fun x92 ex92 => ?_)
            replace hw := hw x92 ex92
            refine v_istore X [(4, .int x92), (7, va_rf (some a81)), (0, va_rf (some a0)), (1, .int x1), (2, va_rf (some a2)), (3, va_rf o3), (5, .int x5), (6, .int x6)] (gD D_X11_shorten_0 58 rfl) (by decide) (by simp [List.filter_cons, rf_cat]) ?_
            refine v_iinc X (x6 + 1) 7 rfl [(6, .int (x6 + 1)), (4, .int x92), (7, va_rf (some a81)), (0, va_rf (some a0)), (1, .int x1), (2, va_rf (some a2)), (3, va_rf o3), (5, .int x5)] (gD D_X11_shorten_0 59 rfl) rfl (by decide) rfl ?_
            refine v_goto X 55 (gD D_X11_shorten_0 60 rfl) (by decide) ?_
            exact v_sub [3, 4, 5] [3, 4, 5, 6, 1, 7, 0] rfl rfl (ih a0 x1 a2 o3 x92 x5 (x6 + 1) s91 k n hw)
set_option maxRecDepth 100000 in
set_option maxHeartbeats 4000000 in
theorem t_X11_shorten_45 {p : Program} {l : Launch} {e : Env} {s : State} {m : MethodId} {args : Array Value} {below : List Frame} {meth : Method} {c : Code} {G : GX} {σ0 : St} {mc ms : Nat} {Q : St → Prop} (X : VC p l (rmD 4 mc ms) s m args meth c G 4 mc ms 8 RX11 cX11_shorten) (hr : meth.sig.returnType = none) (hin : meth.name = yX11_shorten.name) (htr : l.stackTraces = false) : ∀ (f : Nat) (a0 : Nat) (x1 : Int32) (a2 : Nat) (o3 : Option Nat) (x4 : Int32) (x5 : Int32) (σ : St) (k n : Nat), w_X11_shorten_45 Q  f a0 x1 a2 o3 x4 x5 σ k n → V p l e (rmD 4 mc ms) s m args below meth c (MQ below (va_Qv Q (gB G 1 σ0) (GA G)) args s mc ms (GA G)) G 1 σ0 mc ms 8 σ k n [(some a0, 12), (some a2, 6), (o3, 3)] 45 [(0, va_rf (some a0)), (1, .int x1), (2, va_rf (some a2)), (3, va_rf o3), (4, .int x4), (5, .int x5)] [] := by
  intro f
  induction f with
  | zero => intro a0 x1 a2 o3 x4 x5 σ k n hw; exact hw.elim
  | succ f ih =>
    intro a0 x1 a2 o3 x4 x5 σ k n hw
    unfold w_X11_shorten_45 at hw
    refine v_iload X 5 rfl (gD D_X11_shorten_0 24 rfl) ?_
    refine v_bipush X 8 (gD D_X11_shorten_0 25 rfl) (by decide) ?_
    refine v_icmp_gt X 132 (gD D_X11_shorten_0 26 rfl) (by decide) (fun c69 => ?_) (fun c69 => ?_)
    · replace hw := hw.1 c69
      refine v_aload_n X 0 rfl (gD D_X11_shorten_0 63 rfl) rfl ?_
      refine v_callVv X (As := []) (rest := []) (nA := 0) 0 0 k n (fun ht => c_X11_dropEmptyHoldings htr (ht.sub [0] rfl) hw) (Or.inl rfl) 0 (κ := 12) rfl (by decide) (rfl : gCl[11]? = some (RX11, TX11, 19)) lk_vRX11_436 (by decide +kernel) rfl rfl (by decide) (by decide) (by decide) rfl rfl (gD D_X11_shorten_0 64 rfl) (fun s71 hq _ _ => ?_)
      replace hw := hq
      clear hq
      exact v_vret X hr hw (gD D_X11_shorten_0 65 rfl)
    · replace hw := hw.2 c69
      refine v_iconst X 0 (gD D_X11_shorten_0 27 rfl) (by decide) ?_
      refine v_istore X [(6, .int 0), (0, va_rf (some a0)), (1, .int x1), (2, va_rf (some a2)), (3, va_rf o3), (4, .int x4), (5, .int x5)] (gD D_X11_shorten_0 28 rfl) (by decide) rfl ?_
      obtain ⟨f93, hw⟩ := hw
      exact v_sub [0, 1, 2] [1, 2, 3, 4, 5, 6, 0] rfl rfl (t_X11_shorten_55 X hr hin htr ih f93 a0 x1 a2 o3 x4 x5 0 σ k n hw)
set_option maxRecDepth 100000 in
set_option maxHeartbeats 4000000 in
theorem c_X11_shorten {l : Launch} {G : GX} (htr : l.stackTraces = false) {k n : Nat} {σ : St} {a0 : Nat} {x1 : Int32} {a2 : Nat} {o3 : Option Nat} {Q : St → Prop} (ht : tvOk σ [(some a0, 12), (some a2, 6), (o3, 3)]) (hw : w_X11_shorten k n a0 x1 a2 o3 σ Q) : MV l G 1 σ yX11_shorten cX11_shorten 8 4 k n [va_rf (some a0), .int x1, va_rf (some a2), va_rf o3] Q := by
  unfold w_X11_shorten at hw
  refine m_start RX11 (by decide) htr ht (by simp [lg_sl, rf_cat, ct_i]) (by simp [lv_args, rf_cat, ct_i]) (lv := [(0, va_rf (some a0)), (1, .int x1), (2, va_rf (some a2)), (3, va_rf o3)]) (d := 1) (fun p e s m args below meth c X hr hin => ?_)
  refine v_aload_n X 0 rfl (gD D_X11_shorten_0 0 rfl) rfl ?_
  refine v_getR X RX11 TX11 19 12 11 (by decide) rfl gin11 9 1109 RX11 (Or.inl rfl) 0 1 rfl rfl rfl (by decide) lk_fRX11_52 (gD D_X11_shorten_0 1 rfl) (fun o51 eo51 => ?_)
  replace hw := hw o51 eo51
  refine v_iload_n X 1 rfl (gD D_X11_shorten_0 2 rfl) rfl ?_
  refine v_aload_n X 2 rfl (gD D_X11_shorten_0 3 rfl) rfl ?_
  obtain ⟨a52, rfl, hw⟩ := hw
  obtain ⟨k55, n56, k57, n58, h59, h60, hw⟩ := hw
  refine v_callVv X (As := [.int x1, va_rf (some a2)]) (rest := []) (nA := 2) k55 n56 k57 n58 (fun ht => c_X0_believeTruth htr (ht.sub [0, 2] rfl) hw) (Or.inl rfl) 0 (κ := 1) rfl (by decide) (rfl : gCl[0]? = some (RX0, TX0, 8)) lk_vRX11_341 (by decide +kernel) rfl rfl (by decide) (by decide) (by decide) h59 h60 (gD D_X11_shorten_0 4 rfl) (fun s54 hq _ _ => ?_)
  replace hw := hq
  clear hq
  refine v_aload_n X 0 rfl (gD D_X11_shorten_0 5 rfl) rfl ?_
  refine v_getR X RX11 TX11 19 12 11 (by decide) rfl gin11 9 1109 RX11 (Or.inl rfl) 1 1 rfl rfl rfl (by decide) lk_fRX11_52 (gD D_X11_shorten_0 6 rfl) (fun o61 eo61 => ?_)
  replace hw := hw o61 eo61
  obtain ⟨a62, rfl, hw⟩ := hw
  refine v_getR X RX0 TX0 8 1 0 (by decide) rfl gin0 0 0 RX0 (Or.inl rfl) 0 2 rfl rfl rfl (by decide) lk_fRX11_173 (gD D_X11_shorten_0 7 rfl) (fun o63 eo63 => ?_)
  replace hw := hw o63 eo63
  refine v_iload_n X 1 rfl (gD D_X11_shorten_0 8 rfl) rfl ?_
  refine v_aload_n X 2 rfl (gD D_X11_shorten_0 9 rfl) rfl ?_
  refine v_getI X RX5 TX5 4 6 5 (by decide) rfl gin5 0 500 RX5 (Or.inl rfl) 4 rfl rfl (by decide) lk_fRX11_167 (gD D_X11_shorten_0 10 rfl) ?_
  obtain ⟨a64, rfl, hw⟩ := hw
  refine v_callVi X (As := [.int x1, .int (sI s54 500 a2)]) (rest := []) (nA := 2) 0 0 k57 n58 (fun ht => c_X1_at htr (ht.sub [0] rfl) hw) (Or.inl rfl) 0 (κ := 2) rfl (by decide) (rfl : gCl[1]? = some (RX1, TX1, 2)) lk_vRX11_176 (by decide +kernel) rfl rfl (by decide) (by decide) (by decide) rfl rfl (gD D_X11_shorten_0 11 rfl) (fun x65 s66 hq _ _ => ?_)
  replace hw := hq
  clear hq
  refine v_istore X [(4, .int x65), (0, va_rf (some a0)), (1, .int x1), (2, va_rf (some a2)), (3, va_rf o3)] (gD D_X11_shorten_0 12 rfl) (by decide) (by simp [List.filter_cons, rf_cat]) ?_
  refine v_aload_n X 4 rfl (gD D_X11_shorten_0 13 rfl) rfl ?_
  refine v_ifnull X 42 (gD D_X11_shorten_0 14 rfl) (by decide) (fun c67 => ?_) (fun a68 c67 => ?_)
  · replace hw := hw.1 c67
    subst c67
    refine v_iconst X 0 (gD D_X11_shorten_0 22 rfl) (by decide) ?_
    refine v_istore X [(5, .int 0), (4, .int x65), (0, va_rf (some a0)), (1, .int x1), (2, va_rf (some a2)), (3, va_rf none)] (gD D_X11_shorten_0 23 rfl) (by decide) rfl ?_
    refine v_nul 3 ?_
    obtain ⟨f94, hw⟩ := hw
    exact v_sub [4, 5, 0] [2, 3, 4, 5, 1, 0] rfl rfl (t_X11_shorten_45 X hr hin htr  f94 a0 x1 a2 none x65 0 s66 k57 n58 hw)
  · replace hw := hw.2 a68 c67
    subst c67
    refine v_iload X 0 rfl (gD D_X11_shorten_0 15 rfl) ?_
    refine v_aload_n X 1 rfl (gD D_X11_shorten_0 16 rfl) rfl ?_
    refine v_aload_n X 4 rfl (gD D_X11_shorten_0 17 rfl) rfl ?_
    refine v_iload X 0 rfl (gD D_X11_shorten_0 18 rfl) ?_
    refine v_callVi X (As := [va_rf (some a68), .int x65]) (rest := [.int x65]) (nA := 2) 0 0 k57 n58 (fun ht => c_X11_cut htr (ht.sub [3, 5] rfl) hw) (Or.inl rfl) 3 (κ := 12) rfl (by decide) (rfl : gCl[11]? = some (RX11, TX11, 19)) lk_vRX11_439 (by decide +kernel) rfl rfl (by simp [rf_cat, ct_i]) (by decide) (by decide) rfl rfl (gD D_X11_shorten_0 19 rfl) (fun x95 s96 hq _ _ => ?_)
    replace hw := hq
    clear hq
    refine v_isub X (gD D_X11_shorten_0 20 rfl) ?_
    refine v_topi (fun x97 ex97 => ?_)
    replace hw := hw x97 ex97
    refine v_istore X [(4, .int x97), (0, va_rf (some a0)), (1, .int x1), (2, va_rf (some a2)), (3, va_rf (some a68))] (gD D_X11_shorten_0 21 rfl) (by decide) rfl ?_
    refine v_iconst X 0 (gD D_X11_shorten_0 22 rfl) (by decide) ?_
    refine v_istore X [(5, .int 0), (4, .int x97), (0, va_rf (some a0)), (1, .int x1), (2, va_rf (some a2)), (3, va_rf (some a68))] (gD D_X11_shorten_0 23 rfl) (by decide) rfl ?_
    obtain ⟨f98, hw⟩ := hw
    exact v_sub [3, 4, 5] [2, 3, 4, 5, 1, 0] rfl rfl (t_X11_shorten_45 X hr hin htr  f98 a0 x1 a2 (some a68) x97 0 s96 k57 n58 hw)
set_option maxRecDepth 100000 in
set_option maxHeartbeats 4000000 in
theorem t_X11_slotToPutInto_8 {p : Program} {l : Launch} {e : Env} {s : State} {m : MethodId} {args : Array Value} {below : List Frame} {meth : Method} {c : Code} {G : GX} {σ0 : St} {mc ms : Nat} {Q : Int32 → St → Prop} (X : VC p l (rmD 4 mc ms) s m args meth c G 4 mc ms 7 RX11 cX11_slotToPutInto) (hr : meth.sig.returnType = (some .int)) (hin : meth.name = yX11_slotToPutInto.name) (htr : l.stackTraces = false) : ∀ (f : Nat) (a0 : Nat) (a1 : Nat) (x2 : Int32) (x3 : Int32) (x4 : Int32) (x5 : Int32) (σ : St), w_X11_slotToPutInto_8 Q  f a0 a1 x2 x3 x4 x5 σ → V p l e (rmD 4 mc ms) s m args below meth c (MQ below (va_Qi Q (gB G 1 σ0) (GA G)) args s mc ms (GA G)) G 1 σ0 mc ms 7 σ 0 0 [(some a0, 12), (some a1, 6)] 8 [(0, va_rf (some a0)), (1, va_rf (some a1)), (2, .int x2), (3, .int x3), (4, .int x4), (5, .int x5)] [] := by
  intro f
  induction f with
  | zero => intro a0 a1 x2 x3 x4 x5 σ hw; exact hw.elim
  | succ f ih =>
    intro a0 a1 x2 x3 x4 x5 σ hw
    unfold w_X11_slotToPutInto_8 at hw
    refine v_iload X 5 rfl (gD D_X11_slotToPutInto_0 6 rfl) ?_
    refine v_aload_n X 0 rfl (gD D_X11_slotToPutInto_0 7 rfl) rfl ?_
    refine v_getR X RX11 TX11 19 12 11 (by decide) rfl gin11 0 1100 RX11 (Or.inl rfl) 0 24 rfl rfl rfl (by decide) lk_fRX11_11 (gD D_X11_slotToPutInto_0 8 rfl) (fun o51 eo51 => ?_)
    replace hw := hw o51 eo51
    obtain ⟨a52, rfl, hw⟩ := hw
    refine v_alen X 0 rfl (by decide) (gD D_X11_slotToPutInto_0 9 rfl) ?_
    refine v_icmp_ge X 77 (gD D_X11_slotToPutInto_0 10 rfl) (by decide) (fun c53 => ?_) (fun c53 => ?_)
    · replace hw := hw.1 c53
      refine v_iload_n X 3 rfl (gD D_X11_slotToPutInto_0 41 rfl) rfl ?_
      exact v_iret X hr hw (gD D_X11_slotToPutInto_0 42 rfl)
    · replace hw := hw.2 c53
      refine v_aload_n X 0 rfl (gD D_X11_slotToPutInto_0 11 rfl) rfl ?_
      refine v_iload X 5 rfl (gD D_X11_slotToPutInto_0 12 rfl) ?_
      refine v_aload_n X 1 rfl (gD D_X11_slotToPutInto_0 13 rfl) rfl ?_
      refine v_getR X RX5 TX5 4 6 5 (by decide) rfl gin5 1 501 RX5 (Or.inl rfl) 2 4 rfl rfl rfl (by decide) lk_fRX11_368 (gD D_X11_slotToPutInto_0 14 rfl) (fun o54 eo54 => ?_)
      replace hw := hw o54 eo54
      refine v_iload_n X 2 rfl (gD D_X11_slotToPutInto_0 15 rfl) rfl ?_
      obtain ⟨a55, rfl, hw⟩ := hw
      refine v_callVi X (As := [.int x5, va_rf (some a55), .int x2]) (rest := []) (nA := 3) 0 0 0 0 (fun ht => c_X11_canTake htr (ht.sub [2, 0] rfl) hw) (Or.inl rfl) 2 (κ := 12) rfl (by decide) (rfl : gCl[11]? = some (RX11, TX11, 19)) lk_vRX11_383 (by decide +kernel) rfl rfl (by decide) (by decide) (by decide) rfl rfl (gD D_X11_slotToPutInto_0 16 rfl) (fun x56 s57 hq _ _ => ?_)
      replace hw := hq
      clear hq
      refine v_if_eq X 71 (gD D_X11_slotToPutInto_0 17 rfl) (by decide) (fun c58 => ?_) (fun c58 => ?_)
      · replace hw := hw.1 c58
        refine v_iinc X (x5 + 1) 5 rfl [(5, .int (x5 + 1)), (0, va_rf (some a0)), (1, va_rf (some a1)), (2, .int x2), (3, .int x3), (4, .int x4)] (gD D_X11_slotToPutInto_0 39 rfl) rfl (by decide) rfl ?_
        refine v_goto X 8 (gD D_X11_slotToPutInto_0 40 rfl) (by decide) ?_
        exact v_sub [2, 3] [1, 2, 3, 4, 5, 0] rfl rfl (ih a0 a1 x2 x3 x4 (x5 + 1) s57 hw)
      · replace hw := hw.2 c58
        refine v_aload_n X 0 rfl (gD D_X11_slotToPutInto_0 18 rfl) rfl ?_
        refine v_iload X 5 rfl (gD D_X11_slotToPutInto_0 19 rfl) ?_
        refine v_aload_n X 1 rfl (gD D_X11_slotToPutInto_0 20 rfl) rfl ?_
        refine v_callVi X (As := [.int x5, va_rf (some a1)]) (rest := []) (nA := 2) 0 0 0 0 (fun ht => c_X11_strangeness htr (ht.sub [2, 3] rfl) hw) (Or.inl rfl) 2 (κ := 12) rfl (by decide) (rfl : gCl[11]? = some (RX11, TX11, 19)) lk_vRX11_387 (by decide +kernel) rfl rfl (by decide) (by decide) (by decide) rfl rfl (gD D_X11_slotToPutInto_0 21 rfl) (fun x59 s60 hq _ _ => ?_)
        replace hw := hq
        clear hq
        refine v_sipush X 201 (gD D_X11_slotToPutInto_0 22 rfl) (by decide) ?_
        refine v_imul X (gD D_X11_slotToPutInto_0 23 rfl) ?_
        refine v_aload_n X 0 rfl (gD D_X11_slotToPutInto_0 24 rfl) rfl ?_
        refine v_iload X 5 rfl (gD D_X11_slotToPutInto_0 25 rfl) ?_
        refine v_callVi X (As := [.int x5]) (rest := [.int (x59 * 201)]) (nA := 1) 0 0 0 0 (fun ht => c_X11_freeRoom htr (ht.sub [2] rfl) hw) (Or.inl rfl) 2 (κ := 12) rfl (by decide) (rfl : gCl[11]? = some (RX11, TX11, 19)) lk_vRX11_186 (by decide +kernel) rfl rfl (by simp [rf_cat, ct_i]) (by decide) (by decide) rfl rfl (gD D_X11_slotToPutInto_0 26 rfl) (fun x61 s62 hq _ _ => ?_)
        replace hw := hq
        clear hq
        refine v_iadd X (gD D_X11_slotToPutInto_0 27 rfl) ?_
        refine v_topi (fun x63 ex63 => ?_)
        replace hw := hw x63 ex63
        refine v_istore X [(6, .int x63), (0, va_rf (some a0)), (1, va_rf (some a1)), (2, .int x2), (3, .int x3), (4, .int x4), (5, .int x5)] (gD D_X11_slotToPutInto_0 28 rfl) (by decide) rfl ?_
        refine v_iload_n X 4 rfl (gD D_X11_slotToPutInto_0 29 rfl) rfl ?_
        refine v_iconst X (-1) (gD D_X11_slotToPutInto_0 30 rfl) (by decide) ?_
        refine v_icmp_eq X 64 (gD D_X11_slotToPutInto_0 31 rfl) (by decide) (fun c64 => ?_) (fun c64 => ?_)
        · replace hw := hw.1 c64
          refine v_iload X 6 rfl (gD D_X11_slotToPutInto_0 35 rfl) ?_
          refine v_istore_n X [(3, .int x5), (6, .int x63), (0, va_rf (some a0)), (1, va_rf (some a1)), (2, .int x2), (4, .int x4), (5, .int x5)] (gD D_X11_slotToPutInto_0 36 rfl) rfl (by decide) rfl ?_
          refine v_iload X 1 rfl (gD D_X11_slotToPutInto_0 37 rfl) ?_
          refine v_istore X [(4, .int x63), (3, .int x5), (6, .int x63), (0, va_rf (some a0)), (1, va_rf (some a1)), (2, .int x2), (5, .int x5)] (gD D_X11_slotToPutInto_0 38 rfl) (by decide) rfl ?_
          refine v_iinc X (x5 + 1) 6 rfl [(5, .int (x5 + 1)), (4, .int x63), (3, .int x5), (6, .int x63), (0, va_rf (some a0)), (1, va_rf (some a1)), (2, .int x2)] (gD D_X11_slotToPutInto_0 39 rfl) rfl (by decide) rfl ?_
          refine v_goto X 8 (gD D_X11_slotToPutInto_0 40 rfl) (by decide) ?_
          exact v_sub [2, 3] [4, 5, 6, 2, 1, 0] rfl rfl (ih a0 a1 x2 x5 x63 (x5 + 1) s62 hw)
        · replace hw := hw.2 c64
          refine v_iload X 0 rfl (gD D_X11_slotToPutInto_0 32 rfl) ?_
          refine v_iload X 5 rfl (gD D_X11_slotToPutInto_0 33 rfl) ?_
          refine v_icmp_ge X 71 (gD D_X11_slotToPutInto_0 34 rfl) (by decide) (fun c65 => ?_) (fun c65 => ?_)
          · replace hw := hw.1 c65
            refine v_iinc X (x5 + 1) 6 rfl [(5, .int (x5 + 1)), (6, .int x63), (0, va_rf (some a0)), (1, va_rf (some a1)), (2, .int x2), (3, .int x3), (4, .int x4)] (gD D_X11_slotToPutInto_0 39 rfl) rfl (by decide) rfl ?_
            refine v_goto X 8 (gD D_X11_slotToPutInto_0 40 rfl) (by decide) ?_
            exact v_sub [2, 3] [2, 3, 4, 5, 6, 0] rfl rfl (ih a0 a1 x2 x3 x4 (x5 + 1) s62 hw)
          · replace hw := hw.2 c65
            refine v_iload X 6 rfl (gD D_X11_slotToPutInto_0 35 rfl) ?_
            refine v_istore_n X [(3, .int x5), (6, .int x63), (0, va_rf (some a0)), (1, va_rf (some a1)), (2, .int x2), (4, .int x4), (5, .int x5)] (gD D_X11_slotToPutInto_0 36 rfl) rfl (by decide) rfl ?_
            refine v_iload X 1 rfl (gD D_X11_slotToPutInto_0 37 rfl) ?_
            refine v_istore X [(4, .int x63), (3, .int x5), (6, .int x63), (0, va_rf (some a0)), (1, va_rf (some a1)), (2, .int x2), (5, .int x5)] (gD D_X11_slotToPutInto_0 38 rfl) (by decide) rfl ?_
            refine v_iinc X (x5 + 1) 6 rfl [(5, .int (x5 + 1)), (4, .int x63), (3, .int x5), (6, .int x63), (0, va_rf (some a0)), (1, va_rf (some a1)), (2, .int x2)] (gD D_X11_slotToPutInto_0 39 rfl) rfl (by decide) rfl ?_
            refine v_goto X 8 (gD D_X11_slotToPutInto_0 40 rfl) (by decide) ?_
            exact v_sub [2, 3] [4, 5, 6, 2, 1, 0] rfl rfl (ih a0 a1 x2 x5 x63 (x5 + 1) s62 hw)
set_option maxRecDepth 100000 in
set_option maxHeartbeats 4000000 in
theorem c_X11_slotToPutInto {l : Launch} {G : GX} (htr : l.stackTraces = false) {σ : St} {a0 : Nat} {a1 : Nat} {x2 : Int32} {Q : Int32 → St → Prop} (ht : tvOk σ [(some a0, 12), (some a1, 6)]) (hw : w_X11_slotToPutInto a0 a1 x2 σ Q) : MI l G 1 σ yX11_slotToPutInto cX11_slotToPutInto 7 (some .int) 4 0 0 [va_rf (some a0), va_rf (some a1), .int x2] Q := by
  unfold w_X11_slotToPutInto at hw
  refine m_start RX11 (by decide) htr ht (Nat.le_of_ble_eq_true rfl) rfl (lv := [(0, va_rf (some a0)), (1, va_rf (some a1)), (2, .int x2)]) (d := 1) (fun p e s m args below meth c X hr hin => ?_)
  refine v_iconst X (-1) (gD D_X11_slotToPutInto_0 0 rfl) (by decide) ?_
  refine v_istore_n X [(3, .int (-1)), (0, va_rf (some a0)), (1, va_rf (some a1)), (2, .int x2)] (gD D_X11_slotToPutInto_0 1 rfl) rfl (by decide) rfl ?_
  refine v_iconst X 0 (gD D_X11_slotToPutInto_0 2 rfl) (by decide) ?_
  refine v_istore X [(4, .int 0), (3, .int (-1)), (0, va_rf (some a0)), (1, va_rf (some a1)), (2, .int x2)] (gD D_X11_slotToPutInto_0 3 rfl) (by decide) rfl ?_
  refine v_iconst X 0 (gD D_X11_slotToPutInto_0 4 rfl) (by decide) ?_
  refine v_istore X [(5, .int 0), (4, .int 0), (3, .int (-1)), (0, va_rf (some a0)), (1, va_rf (some a1)), (2, .int x2)] (gD D_X11_slotToPutInto_0 5 rfl) (by decide) rfl ?_
  obtain ⟨f66, hw⟩ := hw
  exact v_sub [0, 1] [3, 4, 5, 2, 1, 0] rfl rfl (t_X11_slotToPutInto_8 X hr hin htr  f66 a0 a1 x2 (-1) 0 0 σ hw)
set_option maxRecDepth 100000 in
set_option maxHeartbeats 4000000 in
theorem t_X11_count_144 {p : Program} {l : Launch} {e : Env} {s : State} {m : MethodId} {args : Array Value} {below : List Frame} {meth : Method} {c : Code} {G : GX} {σ0 : St} {mc ms : Nat} {Q : Int32 → St → Prop} {Y : Nat → St → Prop} (X : VC p l (rmD 5 mc ms) s m args meth c G 5 mc ms 6 RX11 cX11_count) (hr : meth.sig.returnType = (some .int)) (hin : meth.name = yX11_count.name) (htr : l.stackTraces = false) (hex : ∀ x ∈ c.exceptionTable.toList, False) : ∀ (a0 : Nat) (x3 : Int32) (σ : St) (k n : Nat), w_X11_count_144 Q Y  a0 x3 σ k n → V p l e (rmD 5 mc ms) s m args below meth c (vx_MQ below (va_Qi Q (gB G 1 σ0) (GA G)) (gX G 1 σ0 Y) args s mc ms (GA G)) G 1 σ0 mc ms 6 σ k n [(some a0, 12)] 144 [(0, va_rf (some a0)), (3, .int x3)] [] := by
  intro a0 x3 σ k n hw
  unfold w_X11_count_144 at hw
  refine v_aload_n X 0 rfl (gD D_X11_count_0 72 rfl) rfl ?_
  refine v_dup X (gD D_X11_count_0 73 rfl) (rf_cat _) ?_
  refine v_getI X RX11 TX11 19 12 11 (by decide) rfl gin11 18 1118 RX11 (Or.inl rfl) 0 rfl rfl (by decide) lk_fRX11_209 (gD D_X11_count_0 74 rfl) ?_
  refine v_bipush X 6 (gD D_X11_count_0 75 rfl) (by decide) ?_
  refine v_iadd X (gD D_X11_count_0 76 rfl) ?_
  refine v_putI X RX11 TX11 19 12 11 (by decide) rfl gin11 18 1118 tyX11 tyX11_ok nmX11 RX11 (Or.inl rfl) 0 rfl .int (int_fit _) rfl (by decide) (Or.inl rfl) lk_fRX11_209 rfl rfl (gD D_X11_count_0 77 rfl) (fun s76 es76 => ?_)
  replace hw := hw s76 es76
  refine v_iload_n X 1 rfl (gD D_X11_count_0 78 rfl) rfl ?_
  exact v_X (v_iret X hr hw (gD D_X11_count_0 79 rfl))
set_option maxRecDepth 100000 in
set_option maxHeartbeats 4000000 in
theorem t_X11_count_107 {p : Program} {l : Launch} {e : Env} {s : State} {m : MethodId} {args : Array Value} {below : List Frame} {meth : Method} {c : Code} {G : GX} {σ0 : St} {mc ms : Nat} {Q : Int32 → St → Prop} {Y : Nat → St → Prop} (X : VC p l (rmD 5 mc ms) s m args meth c G 5 mc ms 6 RX11 cX11_count) (hr : meth.sig.returnType = (some .int)) (hin : meth.name = yX11_count.name) (htr : l.stackTraces = false) (hex : ∀ x ∈ c.exceptionTable.toList, False) : ∀ (a0 : Nat) (x1 : Int32) (x2 : Int32) (x3 : Int32) (x5 : Int32) (σ : St) (k n : Nat), w_X11_count_107 Q Y  a0 x1 x2 x3 x5 σ k n → V p l e (rmD 5 mc ms) s m args below meth c (vx_MQ below (va_Qi Q (gB G 1 σ0) (GA G)) (gX G 1 σ0 Y) args s mc ms (GA G)) G 1 σ0 mc ms 6 σ k n [(some a0, 12)] 107 [(0, va_rf (some a0)), (1, .int x1), (2, .int x2), (3, .int x3), (5, .int x5)] [] := by
  intro a0 x1 x2 x3 x5 σ k n hw
  unfold w_X11_count_107 at hw
  refine v_iload X 4 rfl (gD D_X11_count_0 54 rfl) ?_
  refine v_if_eq X 134 (gD D_X11_count_0 55 rfl) (by decide) (fun c71 => ?_) (fun c71 => ?_)
  · replace hw := hw.1 c71
    refine v_aload_n X 0 rfl (gD D_X11_count_0 66 rfl) rfl ?_
    refine v_getR X RX11 TX11 19 12 11 (by decide) rfl gin11 9 1109 RX11 (Or.inl rfl) 0 1 rfl rfl rfl (by decide) lk_fRX11_52 (gD D_X11_count_0 67 rfl) (fun o72 eo72 => ?_)
    replace hw := hw o72 eo72
    refine v_iload_n X 1 rfl (gD D_X11_count_0 68 rfl) rfl ?_
    refine v_iload_n X 2 rfl (gD D_X11_count_0 69 rfl) rfl ?_
    refine v_iload_n X 3 rfl (gD D_X11_count_0 70 rfl) rfl ?_
    obtain ⟨a73, rfl, hw⟩ := hw
    refine v_callVv X (As := [.int x1, .int x2, .int x3]) (rest := []) (nA := 3) 0 0 k n (fun ht => c_X0_keepDoubt htr (ht.sub [0] rfl) hw) (Or.inl rfl) 0 (κ := 1) rfl (by decide) (rfl : gCl[0]? = some (RX0, TX0, 8)) lk_vRX11_345 (by decide +kernel) rfl rfl (by decide) (by decide) (by decide) rfl rfl (gD D_X11_count_0 71 rfl) (fun s75 hq _ _ => ?_)
    replace hw := hq
    clear hq
    exact v_sub [1] [0, 3] rfl rfl (t_X11_count_144 X hr hin htr hex  a0 x3 s75 k n hw)
  · replace hw := hw.2 c71
    refine v_aload_n X 0 rfl (gD D_X11_count_0 56 rfl) rfl ?_
    refine v_getR X RX11 TX11 19 12 11 (by decide) rfl gin11 9 1109 RX11 (Or.inl rfl) 0 1 rfl rfl rfl (by decide) lk_fRX11_52 (gD D_X11_count_0 57 rfl) (fun o77 eo77 => ?_)
    replace hw := hw o77 eo77
    refine v_iload_n X 1 rfl (gD D_X11_count_0 58 rfl) rfl ?_
    refine v_aload_n X 0 rfl (gD D_X11_count_0 59 rfl) rfl ?_
    refine v_getR X RX11 TX11 19 12 11 (by decide) rfl gin11 3 1103 RX11 (Or.inl rfl) 1 30 rfl rfl rfl (by decide) lk_fRX11_30 (gD D_X11_count_0 60 rfl) (fun o78 eo78 => ?_)
    replace hw := hw o78 eo78
    refine v_iload_n X 2 rfl (gD D_X11_count_0 61 rfl) rfl ?_
    obtain ⟨a79, rfl, hw⟩ := hw
    refine v_callVu X (As := [.int x2]) (rest := [.int x1, va_rf o77]) (nA := 1) 0 0 k n (fun ht => c_Jx4a65c_get_915e3 htr (ht.sub [0] rfl) hw) (Or.inl rfl) 0 (κ := 30) rfl (by decide) (rfl : gCl[13]? = some (RJx4a65c, TJx4a65c, 3)) lk_vRX11_153 (by decide +kernel) rfl rfl (by simp [rf_cat, ct_i]) (by decide) (by decide) rfl rfl (gD D_X11_count_0 62 rfl) (fun o80 s81 hq _ _ => ?_)
    replace hw := hq
    clear hq
    obtain ⟨a82, rfl, hw⟩ := hw
    obtain ⟨h83, hw⟩ := hw
    refine v_cast X RX5 TX5 4 6 5 h83 (by decide) rfl lk_kRX11_148 (gD D_X11_count_0 63 rfl) ?_
    obtain ⟨a84, rfl, hw⟩ := hw
    obtain ⟨k87, n88, k89, n90, h91, h92, hw⟩ := hw
    refine v_callVv X (As := [.int x1, va_rf (some a82)]) (rest := []) (nA := 2) k87 n88 k89 n90 (fun ht => c_X0_believeTruth htr (ht.sub [2, 0] rfl) hw) (Or.inl rfl) 2 (κ := 1) rfl (by decide) (rfl : gCl[0]? = some (RX0, TX0, 8)) lk_vRX11_341 (by decide +kernel) rfl rfl (by decide) (by decide) (by decide) h91 h92 (gD D_X11_count_0 64 rfl) (fun s86 hq _ _ => ?_)
    replace hw := hq
    clear hq
    refine v_goto X 144 (gD D_X11_count_0 65 rfl) (by decide) ?_
    exact v_sub [3] [0, 3] rfl rfl (t_X11_count_144 X hr hin htr hex  a0 x3 s86 k89 n90 hw)
set_option maxRecDepth 100000 in
set_option maxHeartbeats 4000000 in
theorem t_X11_count_74 {p : Program} {l : Launch} {e : Env} {s : State} {m : MethodId} {args : Array Value} {below : List Frame} {meth : Method} {c : Code} {G : GX} {σ0 : St} {mc ms : Nat} {Q : Int32 → St → Prop} {Y : Nat → St → Prop} (X : VC p l (rmD 5 mc ms) s m args meth c G 5 mc ms 6 RX11 cX11_count) (hr : meth.sig.returnType = (some .int)) (hin : meth.name = yX11_count.name) (htr : l.stackTraces = false) (hex : ∀ x ∈ c.exceptionTable.toList, False) : ∀ (a0 : Nat) (x1 : Int32) (x2 : Int32) (x3 : Int32) (x4 : Int32) (xs0 : Int32) (σ : St) (k n : Nat), w_X11_count_74 Q Y  a0 x1 x2 x3 x4 xs0 σ k n → V p l e (rmD 5 mc ms) s m args below meth c (vx_MQ below (va_Qi Q (gB G 1 σ0) (GA G)) (gX G 1 σ0 Y) args s mc ms (GA G)) G 1 σ0 mc ms 6 σ k n [(some a0, 12)] 74 [(0, va_rf (some a0)), (1, .int x1), (2, .int x2), (3, .int x3), (4, .int x4)] [.int xs0] := by
  intro a0 x1 x2 x3 x4 xs0 σ k n hw
  unfold w_X11_count_74 at hw
  refine v_istore X [(5, .int xs0), (0, va_rf (some a0)), (1, .int x1), (2, .int x2), (3, .int x3), (4, .int x4)] (gD D_X11_count_0 38 rfl) (by decide) rfl ?_
  refine v_iload X 0 rfl (gD D_X11_count_0 39 rfl) ?_
  refine v_if_eq X 107 (gD D_X11_count_0 40 rfl) (by decide) (fun c70 => ?_) (fun c70 => ?_)
  · replace hw := hw.1 c70
    exact v_sub [0] [1, 2, 3, 4, 0] rfl rfl (t_X11_count_107 X hr hin htr hex  a0 x1 x2 x3 xs0 σ k n hw)
  · replace hw := hw.2 c70
    refine v_iload_n X 4 rfl (gD D_X11_count_0 41 rfl) rfl ?_
    refine v_iload X 5 rfl (gD D_X11_count_0 42 rfl) ?_
    refine v_icmp_ge X 107 (gD D_X11_count_0 43 rfl) (by decide) (fun c93 => ?_) (fun c93 => ?_)
    · replace hw := hw.1 c93
      exact v_sub [0] [1, 2, 3, 4, 0] rfl rfl (t_X11_count_107 X hr hin htr hex  a0 x1 x2 x3 xs0 σ k n hw)
    · replace hw := hw.2 c93
      refine v_aload_n X 1 rfl (gD D_X11_count_0 44 rfl) rfl ?_
      refine v_iload_n X 2 rfl (gD D_X11_count_0 45 rfl) rfl ?_
      refine v_aload_n X 1 rfl (gD D_X11_count_0 46 rfl) rfl ?_
      refine v_getR X RX11 TX11 19 12 11 (by decide) rfl gin11 3 1103 RX11 (Or.inl rfl) 0 30 rfl rfl rfl (by decide) lk_fRX11_30 (gD D_X11_count_0 47 rfl) (fun o94 eo94 => ?_)
      replace hw := hw o94 eo94
      refine v_iload_n X 3 rfl (gD D_X11_count_0 48 rfl) rfl ?_
      obtain ⟨a95, rfl, hw⟩ := hw
      refine v_callVu X (As := [.int x2]) (rest := [.int x1, va_rf (some a0)]) (nA := 1) 0 0 k n (fun ht => c_Jx4a65c_get_915e3 htr (ht.sub [0] rfl) hw) (Or.inl rfl) 0 (κ := 30) rfl (by decide) (rfl : gCl[13]? = some (RJx4a65c, TJx4a65c, 3)) lk_vRX11_153 (by decide +kernel) rfl rfl (by simp [rf_cat, ct_i]) (by decide) (by decide) rfl rfl (gD D_X11_count_0 49 rfl) (fun o96 s97 hq _ _ => ?_)
      replace hw := hq
      clear hq
      obtain ⟨a98, rfl, hw⟩ := hw
      obtain ⟨h99, hw⟩ := hw
      refine v_cast X RX5 TX5 4 6 5 h99 (by decide) rfl lk_kRX11_148 (gD D_X11_count_0 50 rfl) ?_
      refine v_null X (gD D_X11_count_0 51 rfl) ?_
      refine v_nul 3 ?_
      obtain ⟨k102, n103, k104, n105, h106, h107, hw⟩ := hw
      refine v_callVv X (As := [.int x1, va_rf (some a98), va_rf none]) (rest := []) (nA := 3) k102 n103 k104 n105 (fun ht => c_X11_shorten htr (ht.sub [3, 1, 0] rfl) hw) (Or.inl rfl) 3 (κ := 12) rfl (by decide) (rfl : gCl[11]? = some (RX11, TX11, 19)) lk_vRX11_337 (by decide +kernel) rfl rfl (by decide) (by decide) (by decide) h106 h107 (gD D_X11_count_0 52 rfl) (fun s101 hq _ _ => ?_)
      replace hw := hq
      clear hq
      refine v_goto X 144 (gD D_X11_count_0 53 rfl) (by decide) ?_
      exact v_sub [3] [1, 4] rfl rfl (t_X11_count_144 X hr hin htr hex  a0 x3 s101 k104 n105 hw)
set_option maxRecDepth 100000 in
set_option maxHeartbeats 4000000 in
theorem t_X11_count_73 {p : Program} {l : Launch} {e : Env} {s : State} {m : MethodId} {args : Array Value} {below : List Frame} {meth : Method} {c : Code} {G : GX} {σ0 : St} {mc ms : Nat} {Q : Int32 → St → Prop} {Y : Nat → St → Prop} (X : VC p l (rmD 5 mc ms) s m args meth c G 5 mc ms 6 RX11 cX11_count) (hr : meth.sig.returnType = (some .int)) (hin : meth.name = yX11_count.name) (htr : l.stackTraces = false) (hex : ∀ x ∈ c.exceptionTable.toList, False) : ∀ (a0 : Nat) (x1 : Int32) (x2 : Int32) (x3 : Int32) (x4 : Int32) (σ : St) (k n : Nat), w_X11_count_73 Q Y  a0 x1 x2 x3 x4 σ k n → V p l e (rmD 5 mc ms) s m args below meth c (vx_MQ below (va_Qi Q (gB G 1 σ0) (GA G)) (gX G 1 σ0 Y) args s mc ms (GA G)) G 1 σ0 mc ms 6 σ k n [(some a0, 12)] 73 [(0, va_rf (some a0)), (1, .int x1), (2, .int x2), (3, .int x3), (4, .int x4)] [] := by
  intro a0 x1 x2 x3 x4 σ k n hw
  unfold w_X11_count_73 at hw
  refine v_iconst X 0 (gD D_X11_count_0 37 rfl) (by decide) ?_
  exact v_sub [0] [0, 1, 2, 3, 4] rfl rfl (t_X11_count_74 X hr hin htr hex  a0 x1 x2 x3 x4 0 σ k n hw)
set_option maxRecDepth 100000 in
set_option maxHeartbeats 4000000 in
theorem c_X11_count {l : Launch} {G : GX} (htr : l.stackTraces = false) {k n : Nat} {σ : St} {a0 : Nat} {x1 : Int32} {x2 : Int32} {Q : Int32 → St → Prop} {Y : Nat → St → Prop} (ht : tvOk σ [(some a0, 12)]) (hw : w_X11_count k n a0 x1 x2 σ Q Y) : MIX l G 1 σ yX11_count cX11_count 6 (some .int) 5 k n [va_rf (some a0), .int x1, .int x2] Q Y := by
  unfold w_X11_count at hw
  refine m_startX RX11 (by decide) htr ht (Nat.le_of_ble_eq_true rfl) rfl (lv := [(0, va_rf (some a0)), (1, .int x1), (2, .int x2)]) (d := 1) (fun p e s m args below meth c X hr hin hex => ?_)
  refine v_iload_n X 1 rfl (gD D_X11_count_0 0 rfl) rfl ?_
  refine v_callSi X (As := [.int x1]) (rest := []) (nA := 1) 0 0 k n (fun ht => c_X11_isSlot htr (ht.sub [] rfl) hw) (Or.inl rfl) lk_sRX11_79 (by decide +kernel) rfl rfl (by decide) (by decide) (by decide) rfl rfl (gD D_X11_count_0 1 rfl) (fun x51 s52 hq _ _ => ?_)
  replace hw := hq
  clear hq
  refine v_if_eq X 15 (gD D_X11_count_0 2 rfl) (by decide) (fun c53 => ?_) (fun c53 => ?_)
  · replace hw := hw.1 c53
    exact v_throw X hex 1 (by decide +kernel) lk_xRX11_83 lk_xi_1 lk_xaRX11_85 lk_xgRX11_83_85 (gD D_X11_count_0 7 rfl) (gD D_X11_count_0 8 rfl) (gD D_X11_count_0 9 rfl) (gD D_X11_count_0 10 rfl) (by decide) hw
  · replace hw := hw.2 c53
    refine v_aload_n X 0 rfl (gD D_X11_count_0 3 rfl) rfl ?_
    refine v_iload_n X 2 rfl (gD D_X11_count_0 4 rfl) rfl ?_
    refine v_callVi X (As := [.int x2]) (rest := []) (nA := 1) 0 0 k n (fun ht => c_X11_isLot htr (ht.sub [0] rfl) hw) (Or.inl rfl) 0 (κ := 12) rfl (by decide) (rfl : gCl[11]? = some (RX11, TX11, 19)) lk_vRX11_170 (by decide +kernel) rfl rfl (by decide) (by decide) (by decide) rfl rfl (gD D_X11_count_0 5 rfl) (fun x54 s55 hq _ _ => ?_)
    replace hw := hq
    clear hq
    refine v_if_ne X 23 (gD D_X11_count_0 6 rfl) (by decide) (fun c56 => ?_) (fun c56 => ?_)
    · replace hw := hw.1 c56
      refine v_aload_n X 0 rfl (gD D_X11_count_0 11 rfl) rfl ?_
      refine v_getR X RX11 TX11 19 12 11 (by decide) rfl gin11 9 1109 RX11 (Or.inl rfl) 0 1 rfl rfl rfl (by decide) lk_fRX11_52 (gD D_X11_count_0 12 rfl) (fun o57 eo57 => ?_)
      replace hw := hw o57 eo57
      obtain ⟨a58, rfl, hw⟩ := hw
      refine v_getR X RX0 TX0 8 1 0 (by decide) rfl gin0 2 2 RX0 (Or.inl rfl) 0 2 rfl rfl rfl (by decide) lk_fRX11_326 (gD D_X11_count_0 13 rfl) (fun o59 eo59 => ?_)
      replace hw := hw o59 eo59
      refine v_iload_n X 1 rfl (gD D_X11_count_0 14 rfl) rfl ?_
      refine v_iload_n X 2 rfl (gD D_X11_count_0 15 rfl) rfl ?_
      obtain ⟨a60, rfl, hw⟩ := hw
      refine v_callVi X (As := [.int x1, .int x2]) (rest := []) (nA := 2) 0 0 k n (fun ht => c_X1_at htr (ht.sub [0] rfl) hw) (Or.inl rfl) 0 (κ := 2) rfl (by decide) (rfl : gCl[1]? = some (RX1, TX1, 2)) lk_vRX11_176 (by decide +kernel) rfl rfl (by decide) (by decide) (by decide) rfl rfl (gD D_X11_count_0 16 rfl) (fun x61 s62 hq _ _ => ?_)
      replace hw := hq
      clear hq
      refine v_istore_n X [(3, .int x61), (0, va_rf (some a0)), (1, .int x1), (2, .int x2)] (gD D_X11_count_0 17 rfl) rfl (by decide) rfl ?_
      refine v_aload_n X 1 rfl (gD D_X11_count_0 18 rfl) rfl ?_
      refine v_getR X RX11 TX11 19 12 11 (by decide) rfl gin11 9 1109 RX11 (Or.inl rfl) 2 1 rfl rfl rfl (by decide) lk_fRX11_52 (gD D_X11_count_0 19 rfl) (fun o63 eo63 => ?_)
      replace hw := hw o63 eo63
      obtain ⟨a64, rfl, hw⟩ := hw
      refine v_getR X RX0 TX0 8 1 0 (by decide) rfl gin0 0 0 RX0 (Or.inl rfl) 0 2 rfl rfl rfl (by decide) lk_fRX11_173 (gD D_X11_count_0 20 rfl) (fun o65 eo65 => ?_)
      replace hw := hw o65 eo65
      refine v_iload_n X 2 rfl (gD D_X11_count_0 21 rfl) rfl ?_
      refine v_iload_n X 3 rfl (gD D_X11_count_0 22 rfl) rfl ?_
      obtain ⟨a66, rfl, hw⟩ := hw
      refine v_callVi X (As := [.int x1, .int x2]) (rest := []) (nA := 2) 0 0 k n (fun ht => c_X1_at htr (ht.sub [0] rfl) hw) (Or.inl rfl) 0 (κ := 2) rfl (by decide) (rfl : gCl[1]? = some (RX1, TX1, 2)) lk_vRX11_176 (by decide +kernel) rfl rfl (by decide) (by decide) (by decide) rfl rfl (gD D_X11_count_0 23 rfl) (fun x67 s68 hq _ _ => ?_)
      replace hw := hq
      clear hq
      refine v_istore X [(4, .int x67), (3, .int x61), (0, va_rf (some a0)), (1, .int x1), (2, .int x2)] (gD D_X11_count_0 24 rfl) (by decide) rfl ?_
      refine v_iload_n X 1 rfl (gD D_X11_count_0 25 rfl) rfl ?_
      refine v_iload X 0 rfl (gD D_X11_count_0 26 rfl) ?_
      refine v_icmp_eq X 73 (gD D_X11_count_0 27 rfl) (by decide) (fun c69 => ?_) (fun c69 => ?_)
      · replace hw := hw.1 c69
        exact v_sub [4] [2, 3, 4, 1, 0] rfl rfl (t_X11_count_73 X hr hin htr hex  a0 x1 x2 x61 x67 s68 k n hw)
      · replace hw := hw.2 c69
        refine v_aload_n X 2 rfl (gD D_X11_count_0 28 rfl) rfl ?_
        refine v_getR X RX11 TX11 19 12 11 (by decide) rfl gin11 9 1109 RX11 (Or.inl rfl) 4 1 rfl rfl rfl (by decide) lk_fRX11_52 (gD D_X11_count_0 29 rfl) (fun o108 eo108 => ?_)
        replace hw := hw o108 eo108
        refine v_iload_n X 3 rfl (gD D_X11_count_0 30 rfl) rfl ?_
        refine v_iload_n X 4 rfl (gD D_X11_count_0 31 rfl) rfl ?_
        refine v_iload_n X 1 rfl (gD D_X11_count_0 32 rfl) rfl ?_
        obtain ⟨a109, rfl, hw⟩ := hw
        refine v_callVi X (As := [.int x1, .int x2, .int x61]) (rest := []) (nA := 3) 0 0 k n (fun ht => c_X0_isDoubted htr (ht.sub [0] rfl) hw) (Or.inl rfl) 0 (κ := 1) rfl (by decide) (rfl : gCl[0]? = some (RX0, TX0, 8)) lk_vRX11_334 (by decide +kernel) rfl rfl (by decide) (by decide) (by decide) rfl rfl (gD D_X11_count_0 33 rfl) (fun x110 s111 hq _ _ => ?_)
        replace hw := hq
        clear hq
        refine v_if_eq X 73 (gD D_X11_count_0 34 rfl) (by decide) (fun c112 => ?_) (fun c112 => ?_)
        · replace hw := hw.1 c112
          exact v_sub [5] [2, 3, 4, 1, 0] rfl rfl (t_X11_count_73 X hr hin htr hex  a0 x1 x2 x61 x67 s111 k n hw)
        · replace hw := hw.2 c112
          refine v_iconst X 1 (gD D_X11_count_0 35 rfl) (by decide) ?_
          refine v_goto X 74 (gD D_X11_count_0 36 rfl) (by decide) ?_
          exact v_sub [5] [2, 3, 4, 1, 0] rfl rfl (t_X11_count_74 X hr hin htr hex  a0 x1 x2 x61 x67 1 s111 k n hw)
    · replace hw := hw.2 c56
      exact v_throw X hex 1 (by decide +kernel) lk_xRX11_83 lk_xi_1 lk_xaRX11_85 lk_xgRX11_83_85 (gD D_X11_count_0 7 rfl) (gD D_X11_count_0 8 rfl) (gD D_X11_count_0 9 rfl) (gD D_X11_count_0 10 rfl) (by decide) hw
set_option maxRecDepth 100000 in
set_option maxHeartbeats 4000000 in
theorem t_X11_doStationInSlot_76 {p : Program} {l : Launch} {e : Env} {s : State} {m : MethodId} {args : Array Value} {below : List Frame} {meth : Method} {c : Code} {G : GX} {σ0 : St} {mc ms : Nat} {Q : St → Prop} (X : VC p l (rmD 5 mc ms) s m args meth c G 5 mc ms 3 RX11 cX11_doStationInSlot) (hr : meth.sig.returnType = none) (hin : meth.name = yX11_doStationInSlot.name) (htr : l.stackTraces = false) : ∀ (a0 : Nat) (a1 : Nat) (σ : St) (k n : Nat), w_X11_doStationInSlot_76 Q  a0 a1 σ k n → V p l e (rmD 5 mc ms) s m args below meth c (MQ below (va_Qv Q (gB G 1 σ0) (GA G)) args s mc ms (GA G)) G 1 σ0 mc ms 3 σ k n [(some a0, 12), (some a1, 11)] 76 [(0, va_rf (some a0)), (1, va_rf (some a1))] [] := by
  intro a0 a1 σ k n hw
  unfold w_X11_doStationInSlot_76 at hw
  refine v_aload_n X 0 rfl (gD D_X11_doStationInSlot_0 36 rfl) rfl ?_
  refine v_aload_n X 1 rfl (gD D_X11_doStationInSlot_0 37 rfl) rfl ?_
  obtain ⟨k56, n57, k58, n59, h60, h61, hw⟩ := hw
  refine v_callVv X (As := [va_rf (some a1)]) (rest := []) (nA := 1) k56 n57 k58 n59 (fun ht => c_X11_finish htr (ht.sub [0, 1] rfl) hw) (Or.inl rfl) 0 (κ := 12) rfl (by decide) (rfl : gCl[11]? = some (RX11, TX11, 19)) lk_vRX11_504 (by decide +kernel) rfl rfl (by decide) (by decide) (by decide) h60 h61 (gD D_X11_doStationInSlot_0 38 rfl) (fun s55 hq _ _ => ?_)
  replace hw := hq
  clear hq
  exact v_vret X hr hw (gD D_X11_doStationInSlot_0 39 rfl)
set_option maxRecDepth 100000 in
set_option maxHeartbeats 4000000 in
theorem t_X11_doStationInSlot_53 {p : Program} {l : Launch} {e : Env} {s : State} {m : MethodId} {args : Array Value} {below : List Frame} {meth : Method} {c : Code} {G : GX} {σ0 : St} {mc ms : Nat} {Q : St → Prop} (X : VC p l (rmD 5 mc ms) s m args meth c G 5 mc ms 3 RX11 cX11_doStationInSlot) (hr : meth.sig.returnType = none) (hin : meth.name = yX11_doStationInSlot.name) (htr : l.stackTraces = false) : ∀ (a0 : Nat) (a1 : Nat) (σ : St) (k n : Nat), w_X11_doStationInSlot_53 Q  a0 a1 σ k n → V p l e (rmD 5 mc ms) s m args below meth c (MQ below (va_Qv Q (gB G 1 σ0) (GA G)) args s mc ms (GA G)) G 1 σ0 mc ms 3 σ k n [(some a0, 12), (some a1, 11)] 53 [(0, va_rf (some a0)), (1, va_rf (some a1))] [] := by
  intro a0 a1 σ k n hw
  unfold w_X11_doStationInSlot_53 at hw
  refine v_aload_n X 1 rfl (gD D_X11_doStationInSlot_0 25 rfl) rfl ?_
  refine v_getI X RX10 TX10 7 11 10 (by decide) rfl gin10 1 1001 RX10 (Or.inl rfl) 1 rfl rfl (by decide) lk_fRX11_319 (gD D_X11_doStationInSlot_0 26 rfl) ?_
  refine v_iconst X 1 (gD D_X11_doStationInSlot_0 27 rfl) (by decide) ?_
  refine v_icmp_ne X 76 (gD D_X11_doStationInSlot_0 28 rfl) (by decide) (fun c53 => ?_) (fun c53 => ?_)
  · replace hw := hw.1 c53
    exact v_sub [0, 1] [0, 1] rfl rfl (t_X11_doStationInSlot_76 X hr hin htr  a0 a1 σ k n hw)
  · replace hw := hw.2 c53
    refine v_aload_n X 1 rfl (gD D_X11_doStationInSlot_0 29 rfl) rfl ?_
    refine v_getI X RX10 TX10 7 11 10 (by decide) rfl gin10 6 1006 RX10 (Or.inl rfl) 1 rfl rfl (by decide) lk_fRX11_490 (gD D_X11_doStationInSlot_0 30 rfl) ?_
    refine v_if_ne X 76 (gD D_X11_doStationInSlot_0 31 rfl) (by decide) (fun c62 => ?_) (fun c62 => ?_)
    · replace hw := hw.1 c62
      exact v_sub [0, 1] [0, 1] rfl rfl (t_X11_doStationInSlot_76 X hr hin htr  a0 a1 σ k n hw)
    · replace hw := hw.2 c62
      refine v_aload_n X 1 rfl (gD D_X11_doStationInSlot_0 32 rfl) rfl ?_
      refine v_iconst X 1 (gD D_X11_doStationInSlot_0 33 rfl) (by decide) ?_
      refine v_putI X RX10 TX10 7 11 10 (by decide) rfl gin10 6 1006 tyX10 tyX10_ok nmX10 RX10 (Or.inl rfl) 1 rfl .boolean (bool_fit (by decide)) rfl (by decide) (Or.inl rfl) lk_fRX11_490 rfl rfl (gD D_X11_doStationInSlot_0 34 rfl) (fun s63 es63 => ?_)
      replace hw := hw s63 es63
      refine v_goto X 81 (gD D_X11_doStationInSlot_0 35 rfl) (by decide) ?_
      exact v_vret X hr hw (gD D_X11_doStationInSlot_0 39 rfl)
set_option maxRecDepth 100000 in
set_option maxHeartbeats 4000000 in
theorem c_X11_doStationInSlot {l : Launch} {G : GX} (htr : l.stackTraces = false) {k n : Nat} {σ : St} {a0 : Nat} {a1 : Nat} {Q : St → Prop} (ht : tvOk σ [(some a0, 12), (some a1, 11)]) (hw : w_X11_doStationInSlot k n a0 a1 σ Q) : MV l G 1 σ yX11_doStationInSlot cX11_doStationInSlot 3 5 k n [va_rf (some a0), va_rf (some a1)] Q := by
  unfold w_X11_doStationInSlot at hw
  refine m_start RX11 (by decide) htr ht (Nat.le_of_ble_eq_true rfl) rfl (lv := [(0, va_rf (some a0)), (1, va_rf (some a1))]) (d := 1) (fun p e s m args below meth c X hr hin => ?_)
  refine v_aload_n X 1 rfl (gD D_X11_doStationInSlot_0 0 rfl) rfl ?_
  refine v_getR X RX10 TX10 7 11 10 (by decide) rfl gin10 2 1002 RX10 (Or.inl rfl) 1 3 rfl rfl rfl (by decide) lk_fRX11_500 (gD D_X11_doStationInSlot_0 1 rfl) (fun o51 eo51 => ?_)
  replace hw := hw o51 eo51
  refine v_astore_n X [(2, va_rf o51), (0, va_rf (some a0)), (1, va_rf (some a1))] (gD D_X11_doStationInSlot_0 2 rfl) rfl (by decide) rfl ?_
  refine v_aload_n X 2 rfl (gD D_X11_doStationInSlot_0 3 rfl) rfl ?_
  refine v_getI X RX10 TX10 7 11 10 (by decide) rfl gin10 6 1006 RX10 (Or.inl rfl) 2 rfl rfl (by decide) lk_fRX11_490 (gD D_X11_doStationInSlot_0 4 rfl) ?_
  refine v_if_ne X 53 (gD D_X11_doStationInSlot_0 5 rfl) (by decide) (fun c52 => ?_) (fun c52 => ?_)
  · replace hw := hw.1 c52
    exact v_sub [1, 2] [1, 2] rfl rfl (t_X11_doStationInSlot_53 X hr hin htr  a0 a1 σ k n hw)
  · replace hw := hw.2 c52
    refine v_aload_n X 1 rfl (gD D_X11_doStationInSlot_0 6 rfl) rfl ?_
    refine v_getR X RX11 TX11 19 12 11 (by decide) rfl gin11 9 1109 RX11 (Or.inl rfl) 1 1 rfl rfl rfl (by decide) lk_fRX11_52 (gD D_X11_doStationInSlot_0 7 rfl) (fun o64 eo64 => ?_)
    replace hw := hw o64 eo64
    obtain ⟨a65, rfl, hw⟩ := hw
    refine v_getR X RX0 TX0 8 1 0 (by decide) rfl gin0 2 2 RX0 (Or.inl rfl) 0 2 rfl rfl rfl (by decide) lk_fRX11_326 (gD D_X11_doStationInSlot_0 8 rfl) (fun o66 eo66 => ?_)
    replace hw := hw o66 eo66
    refine v_aload_n X 0 rfl (gD D_X11_doStationInSlot_0 9 rfl) rfl ?_
    obtain ⟨a67, rfl, hw⟩ := hw
    refine v_getI X RX2 TX2 6 3 2 (by decide) rfl gin2 2 202 RX2 (Or.inl rfl) 2 rfl rfl (by decide) lk_fRX11_407 (gD D_X11_doStationInSlot_0 10 rfl) ?_
    refine v_aload_n X 0 rfl (gD D_X11_doStationInSlot_0 11 rfl) rfl ?_
    refine v_getR X RX2 TX2 6 3 2 (by decide) rfl gin2 3 203 RX2 (Or.inl rfl) 2 6 rfl rfl rfl (by decide) lk_fRX11_410 (gD D_X11_doStationInSlot_0 12 rfl) (fun o68 eo68 => ?_)
    replace hw := hw o68 eo68
    obtain ⟨a69, rfl, hw⟩ := hw
    refine v_getI X RX5 TX5 4 6 5 (by decide) rfl gin5 0 500 RX5 (Or.inl rfl) 0 rfl rfl (by decide) lk_fRX11_167 (gD D_X11_doStationInSlot_0 13 rfl) ?_
    obtain ⟨a70, rfl, hw⟩ := hw
    refine v_callVi X (As := [.int (sI σ 202 a67), .int (sI σ 500 a69)]) (rest := []) (nA := 2) 0 0 k n (fun ht => c_X1_at htr (ht.sub [1] rfl) hw) (Or.inl rfl) 1 (κ := 2) rfl (by decide) (rfl : gCl[1]? = some (RX1, TX1, 2)) lk_vRX11_176 (by decide +kernel) rfl rfl (by decide) (by decide) (by decide) rfl rfl (gD D_X11_doStationInSlot_0 14 rfl) (fun x71 s72 hq _ _ => ?_)
    replace hw := hq
    clear hq
    refine v_aload_n X 2 rfl (gD D_X11_doStationInSlot_0 15 rfl) rfl ?_
    refine v_getI X RX10 TX10 7 11 10 (by decide) rfl gin10 4 1004 RX10 (Or.inl rfl) 5 rfl rfl (by decide) lk_fRX11_322 (gD D_X11_doStationInSlot_0 16 rfl) ?_
    refine v_icmp_ge X 53 (gD D_X11_doStationInSlot_0 17 rfl) (by decide) (fun c73 => ?_) (fun c73 => ?_)
    · replace hw := hw.1 c73
      exact v_sub [4, 5] [1, 2] rfl rfl (t_X11_doStationInSlot_53 X hr hin htr  a0 a1 s72 k n hw)
    · replace hw := hw.2 c73
      refine v_aload_n X 1 rfl (gD D_X11_doStationInSlot_0 18 rfl) rfl ?_
      refine v_aload_n X 0 rfl (gD D_X11_doStationInSlot_0 19 rfl) rfl ?_
      refine v_getI X RX2 TX2 6 3 2 (by decide) rfl gin2 2 202 RX2 (Or.inl rfl) 3 rfl rfl (by decide) lk_fRX11_407 (gD D_X11_doStationInSlot_0 20 rfl) ?_
      refine v_aload_n X 0 rfl (gD D_X11_doStationInSlot_0 21 rfl) rfl ?_
      refine v_getR X RX2 TX2 6 3 2 (by decide) rfl gin2 3 203 RX2 (Or.inl rfl) 3 6 rfl rfl rfl (by decide) lk_fRX11_410 (gD D_X11_doStationInSlot_0 22 rfl) (fun o74 eo74 => ?_)
      replace hw := hw o74 eo74
      refine v_aload_n X 0 rfl (gD D_X11_doStationInSlot_0 23 rfl) rfl ?_
      obtain ⟨a75, rfl, hw⟩ := hw
      obtain ⟨k78, n79, k80, n81, h82, h83, hw⟩ := hw
      refine v_callVv X (As := [.int (sI s72 202 a67), va_rf (some a75), va_rf (some a67)]) (rest := []) (nA := 3) k78 n79 k80 n81 (fun ht => c_X11_shorten htr (ht.sub [5, 0, 4] rfl) hw) (Or.inl rfl) 5 (κ := 12) rfl (by decide) (rfl : gCl[11]? = some (RX11, TX11, 19)) lk_vRX11_337 (by decide +kernel) rfl rfl (by decide) (by decide) (by decide) h82 h83 (gD D_X11_doStationInSlot_0 24 rfl) (fun s77 hq _ _ => ?_)
      replace hw := hq
      clear hq
      exact v_sub [5, 6] [1, 2] rfl rfl (t_X11_doStationInSlot_53 X hr hin htr  a0 a1 s77 k80 n81 hw)
set_option maxRecDepth 100000 in
set_option maxHeartbeats 4000000 in
theorem t_X11_recall_59 {p : Program} {l : Launch} {e : Env} {s : State} {m : MethodId} {args : Array Value} {below : List Frame} {meth : Method} {c : Code} {G : GX} {σ0 : St} {mc ms : Nat} {Q : Int32 → St → Prop} {Y : Nat → St → Prop} (X : VC p l (rmD 5 mc ms) s m args meth c G 5 mc ms 5 RX11 cX11_recall) (hr : meth.sig.returnType = (some .int)) (hin : meth.name = yX11_recall.name) (htr : l.stackTraces = false) (hex : ∀ x ∈ c.exceptionTable.toList, False) : ∀ (f : Nat) (a0 : Nat) (x1 : Int32) (x3 : Int32) (x4 : Int32) (σ : St) (k n : Nat), w_X11_recall_59 Q Y  f a0 x1 x3 x4 σ k n → V p l e (rmD 5 mc ms) s m args below meth c (vx_MQ below (va_Qi Q (gB G 1 σ0) (GA G)) (gX G 1 σ0 Y) args s mc ms (GA G)) G 1 σ0 mc ms 5 σ k n [(some a0, 12)] 59 [(0, va_rf (some a0)), (1, .int x1), (3, .int x3), (4, .int x4)] [] := by
  intro f
  induction f with
  | zero => intro a0 x1 x3 x4 σ k n hw; exact hw.elim
  | succ f ih =>
    intro a0 x1 x3 x4 σ k n hw
    unfold w_X11_recall_59 at hw
    refine v_iload X 3 rfl (gD D_X11_recall_0 32 rfl) ?_
    refine v_aload_n X 0 rfl (gD D_X11_recall_0 33 rfl) rfl ?_
    refine v_getR X RX11 TX11 19 12 11 (by decide) rfl gin11 6 1106 RX11 (Or.inl rfl) 0 30 rfl rfl rfl (by decide) lk_fRX11_40 (gD D_X11_recall_0 34 rfl) (fun o64 eo64 => ?_)
    replace hw := hw o64 eo64
    obtain ⟨a65, rfl, hw⟩ := hw
    refine v_callVi X (As := []) (rest := [.int x4]) (nA := 0) 0 0 k n (fun ht => c_Jx4a65c_size_8abf5 htr (ht.sub [0] rfl) hw) (Or.inl rfl) 0 (κ := 30) rfl (by decide) (rfl : gCl[13]? = some (RJx4a65c, TJx4a65c, 3)) lk_vRX11_145 (by decide +kernel) rfl rfl (by simp [rf_cat, ct_i]) (by decide) (by decide) rfl rfl (gD D_X11_recall_0 35 rfl) (fun x66 s67 hq _ _ => ?_)
    replace hw := hq
    clear hq
    refine v_icmp_ge X 90 (gD D_X11_recall_0 36 rfl) (by decide) (fun c68 => ?_) (fun c68 => ?_)
    · replace hw := hw.1 c68
      refine v_iload_n X 2 rfl (gD D_X11_recall_0 47 rfl) rfl ?_
      exact v_X (v_iret X hr hw (gD D_X11_recall_0 48 rfl))
    · replace hw := hw.2 c68
      refine v_iload_n X 2 rfl (gD D_X11_recall_0 37 rfl) rfl ?_
      refine v_aload_n X 0 rfl (gD D_X11_recall_0 38 rfl) rfl ?_
      refine v_getR X RX11 TX11 19 12 11 (by decide) rfl gin11 11 1111 RX11 (Or.inl rfl) 1 2 rfl rfl rfl (by decide) lk_fRX11_65 (gD D_X11_recall_0 39 rfl) (fun o69 eo69 => ?_)
      replace hw := hw o69 eo69
      refine v_iload X 3 rfl (gD D_X11_recall_0 40 rfl) ?_
      refine v_iload_n X 1 rfl (gD D_X11_recall_0 41 rfl) rfl ?_
      obtain ⟨a70, rfl, hw⟩ := hw
      refine v_callVi X (As := [.int x4, .int x1]) (rest := [.int x3]) (nA := 2) 0 0 k n (fun ht => c_X1_at htr (ht.sub [0] rfl) hw) (Or.inl rfl) 0 (κ := 2) rfl (by decide) (rfl : gCl[1]? = some (RX1, TX1, 2)) lk_vRX11_176 (by decide +kernel) rfl rfl (by simp [rf_cat, ct_i]) (by decide) (by decide) rfl rfl (gD D_X11_recall_0 42 rfl) (fun x71 s72 hq _ _ => ?_)
      replace hw := hq
      clear hq
      refine v_iadd X (gD D_X11_recall_0 43 rfl) ?_
      refine v_topi (fun x73 ex73 => ?_)
      replace hw := hw x73 ex73
      refine v_istore_n X [(3, .int x73), (0, va_rf (some a0)), (1, .int x1), (4, .int x4)] (gD D_X11_recall_0 44 rfl) rfl (by decide) rfl ?_
      refine v_iinc X (x4 + 1) 3 rfl [(4, .int (x4 + 1)), (3, .int x73), (0, va_rf (some a0)), (1, .int x1)] (gD D_X11_recall_0 45 rfl) rfl (by decide) rfl ?_
      refine v_goto X 59 (gD D_X11_recall_0 46 rfl) (by decide) ?_
      exact v_sub [2] [2, 3, 1, 0] rfl rfl (ih a0 x1 x73 (x4 + 1) s72 k n hw)
set_option maxRecDepth 100000 in
set_option maxHeartbeats 4000000 in
theorem c_X11_recall {l : Launch} {G : GX} (htr : l.stackTraces = false) {k n : Nat} {σ : St} {a0 : Nat} {x1 : Int32} {Q : Int32 → St → Prop} {Y : Nat → St → Prop} (ht : tvOk σ [(some a0, 12)]) (hw : w_X11_recall k n a0 x1 σ Q Y) : MIX l G 1 σ yX11_recall cX11_recall 5 (some .int) 5 k n [va_rf (some a0), .int x1] Q Y := by
  unfold w_X11_recall at hw
  refine m_startX RX11 (by decide) htr ht (Nat.le_of_ble_eq_true rfl) rfl (lv := [(0, va_rf (some a0)), (1, .int x1)]) (d := 1) (fun p e s m args below meth c X hr hin hex => ?_)
  refine v_aload_n X 0 rfl (gD D_X11_recall_0 0 rfl) rfl ?_
  refine v_iload_n X 1 rfl (gD D_X11_recall_0 1 rfl) rfl ?_
  refine v_callVi X (As := [.int x1]) (rest := []) (nA := 1) 0 0 k n (fun ht => c_X11_isLot htr (ht.sub [0] rfl) hw) (Or.inl rfl) 0 (κ := 12) rfl (by decide) (rfl : gCl[11]? = some (RX11, TX11, 19)) lk_vRX11_170 (by decide +kernel) rfl rfl (by decide) (by decide) (by decide) rfl rfl (gD D_X11_recall_0 2 rfl) (fun x51 s52 hq _ _ => ?_)
  replace hw := hq
  clear hq
  refine v_if_ne X 16 (gD D_X11_recall_0 3 rfl) (by decide) (fun c53 => ?_) (fun c53 => ?_)
  · replace hw := hw.1 c53
    refine v_aload_n X 0 rfl (gD D_X11_recall_0 8 rfl) rfl ?_
    refine v_getR X RX11 TX11 19 12 11 (by decide) rfl gin11 3 1103 RX11 (Or.inl rfl) 0 30 rfl rfl rfl (by decide) lk_fRX11_30 (gD D_X11_recall_0 9 rfl) (fun o54 eo54 => ?_)
    replace hw := hw o54 eo54
    refine v_iload_n X 1 rfl (gD D_X11_recall_0 10 rfl) rfl ?_
    obtain ⟨a55, rfl, hw⟩ := hw
    refine v_callVu X (As := [.int x1]) (rest := []) (nA := 1) 0 0 k n (fun ht => c_Jx4a65c_get_915e3 htr (ht.sub [0] rfl) hw) (Or.inl rfl) 0 (κ := 30) rfl (by decide) (rfl : gCl[13]? = some (RJx4a65c, TJx4a65c, 3)) lk_vRX11_153 (by decide +kernel) rfl rfl (by decide) (by decide) (by decide) rfl rfl (gD D_X11_recall_0 11 rfl) (fun o56 s57 hq _ _ => ?_)
    replace hw := hq
    clear hq
    obtain ⟨a58, rfl, hw⟩ := hw
    obtain ⟨h59, hw⟩ := hw
    refine v_cast X RX5 TX5 4 6 5 h59 (by decide) rfl lk_kRX11_148 (gD D_X11_recall_0 12 rfl) ?_
    refine v_astore_n X [(2, va_rf (some a58)), (0, va_rf (some a0)), (1, .int x1)] (gD D_X11_recall_0 13 rfl) rfl (by decide) rfl ?_
    refine v_aload_n X 0 rfl (gD D_X11_recall_0 14 rfl) rfl ?_
    refine v_getI X RX5 TX5 4 6 5 (by decide) rfl gin5 3 503 RX5 (Or.inl rfl) 0 rfl rfl (by decide) lk_fRX11_365 (gD D_X11_recall_0 15 rfl) ?_
    refine v_if_eq X 43 (gD D_X11_recall_0 16 rfl) (by decide) (fun c60 => ?_) (fun c60 => ?_)
    · replace hw := hw.1 c60
      refine v_aload_n X 0 rfl (gD D_X11_recall_0 21 rfl) rfl ?_
      refine v_iconst X 1 (gD D_X11_recall_0 22 rfl) (by decide) ?_
      refine v_putI X RX5 TX5 4 6 5 (by decide) rfl gin5 3 503 tyX5 tyX5_ok nmX5 RX5 (Or.inl rfl) 0 rfl .boolean (bool_fit (by decide)) rfl (by decide) (Or.inl rfl) lk_fRX11_365 rfl rfl (gD D_X11_recall_0 23 rfl) (fun s61 es61 => ?_)
      replace hw := hw s61 es61
      refine v_aload_n X 1 rfl (gD D_X11_recall_0 24 rfl) rfl ?_
      refine v_null X (gD D_X11_recall_0 25 rfl) ?_
      refine v_aload_n X 0 rfl (gD D_X11_recall_0 26 rfl) rfl ?_
      refine v_nul 8 ?_
      refine v_callVv X (As := [va_rf none, va_rf (some a58)]) (rest := []) (nA := 2) 0 0 k n (fun ht => c_X11_letGo htr (ht.sub [3, 0, 1] rfl) hw) (Or.inl rfl) 3 (κ := 12) rfl (by decide) (rfl : gCl[11]? = some (RX11, TX11, 19)) lk_vRX11_355 (by decide +kernel) rfl rfl (by decide) (by decide) (by decide) rfl rfl (gD D_X11_recall_0 27 rfl) (fun s63 hq _ _ => ?_)
      replace hw := hq
      clear hq
      refine v_iconst X 0 (gD D_X11_recall_0 28 rfl) (by decide) ?_
      refine v_istore_n X [(3, .int 0), (2, va_rf (some a58)), (0, va_rf (some a0)), (1, .int x1)] (gD D_X11_recall_0 29 rfl) rfl (by decide) rfl ?_
      refine v_iconst X 0 (gD D_X11_recall_0 30 rfl) (by decide) ?_
      refine v_istore X [(4, .int 0), (3, .int 0), (2, va_rf (some a58)), (0, va_rf (some a0)), (1, .int x1)] (gD D_X11_recall_0 31 rfl) (by decide) rfl ?_
      obtain ⟨f74, hw⟩ := hw
      exact v_sub [3] [3, 4, 1, 0] rfl rfl (t_X11_recall_59 X hr hin htr hex  f74 a0 x1 0 0 s63 k n hw)
    · replace hw := hw.2 c60
      exact v_throw X hex 3 (by decide +kernel) lk_xRX11_100 lk_xi_3 lk_xaRX11_102 lk_xgRX11_100_102 (gD D_X11_recall_0 17 rfl) (gD D_X11_recall_0 18 rfl) (gD D_X11_recall_0 19 rfl) (gD D_X11_recall_0 20 rfl) (by decide) hw
  · replace hw := hw.2 c53
    exact v_throw X hex 1 (by decide +kernel) lk_xRX11_83 lk_xi_1 lk_xaRX11_85 lk_xgRX11_83_85 (gD D_X11_recall_0 4 rfl) (gD D_X11_recall_0 5 rfl) (gD D_X11_recall_0 6 rfl) (gD D_X11_recall_0 7 rfl) (by decide) hw
set_option maxRecDepth 100000 in
set_option maxHeartbeats 4000000 in
theorem c_X11_send {l : Launch} {G : GX} (htr : l.stackTraces = false) {k n : Nat} {σ : St} {a0 : Nat} {x1 : Int32} {Q : Int32 → St → Prop} {Y : Nat → St → Prop} (ht : tvOk σ [(some a0, 12)]) (hw : w_X11_send k n a0 x1 σ Q Y) : MIX l G 1 σ yX11_send cX11_send 3 (some .int) 5 k n [va_rf (some a0), .int x1] Q Y := by
  unfold w_X11_send at hw
  refine m_startX RX11 (by decide) htr ht (Nat.le_of_ble_eq_true rfl) rfl (lv := [(0, va_rf (some a0)), (1, .int x1)]) (d := 1) (fun p e s m args below meth c X hr hin hex => ?_)
  refine v_aload_n X 0 rfl (gD D_X11_send_0 0 rfl) rfl ?_
  refine v_iload_n X 1 rfl (gD D_X11_send_0 1 rfl) rfl ?_
  refine v_callVi X (As := [.int x1]) (rest := []) (nA := 1) 0 0 k n (fun ht => c_X11_isOrder htr (ht.sub [0] rfl) hw) (Or.inl rfl) 0 (κ := 12) rfl (by decide) (rfl : gCl[11]? = some (RX11, TX11, 19)) lk_vRX11_240 (by decide +kernel) rfl rfl (by decide) (by decide) (by decide) rfl rfl (gD D_X11_send_0 2 rfl) (fun x51 s52 hq _ _ => ?_)
  replace hw := hq
  clear hq
  refine v_if_ne X 16 (gD D_X11_send_0 3 rfl) (by decide) (fun c53 => ?_) (fun c53 => ?_)
  · replace hw := hw.1 c53
    refine v_aload_n X 0 rfl (gD D_X11_send_0 8 rfl) rfl ?_
    refine v_getR X RX11 TX11 19 12 11 (by decide) rfl gin11 6 1106 RX11 (Or.inl rfl) 0 30 rfl rfl rfl (by decide) lk_fRX11_40 (gD D_X11_send_0 9 rfl) (fun o54 eo54 => ?_)
    replace hw := hw o54 eo54
    refine v_iload_n X 1 rfl (gD D_X11_send_0 10 rfl) rfl ?_
    obtain ⟨a55, rfl, hw⟩ := hw
    refine v_callVu X (As := [.int x1]) (rest := []) (nA := 1) 0 0 k n (fun ht => c_Jx4a65c_get_915e3 htr (ht.sub [0] rfl) hw) (Or.inl rfl) 0 (κ := 30) rfl (by decide) (rfl : gCl[13]? = some (RJx4a65c, TJx4a65c, 3)) lk_vRX11_153 (by decide +kernel) rfl rfl (by decide) (by decide) (by decide) rfl rfl (gD D_X11_send_0 11 rfl) (fun o56 s57 hq _ _ => ?_)
    replace hw := hq
    clear hq
    obtain ⟨a58, rfl, hw⟩ := hw
    obtain ⟨h59, hw⟩ := hw
    refine v_cast X RX7 TX7 7 8 7 h59 (by decide) rfl lk_kRX11_235 (gD D_X11_send_0 12 rfl) ?_
    refine v_astore_n X [(2, va_rf (some a58)), (0, va_rf (some a0)), (1, .int x1)] (gD D_X11_send_0 13 rfl) rfl (by decide) rfl ?_
    refine v_aload_n X 0 rfl (gD D_X11_send_0 14 rfl) rfl ?_
    refine v_getI X RX7 TX7 7 8 7 (by decide) rfl gin7 5 705 RX7 (Or.inl rfl) 0 rfl rfl (by decide) lk_fRX11_246 (gD D_X11_send_0 15 rfl) ?_
    refine v_if_eq X 43 (gD D_X11_send_0 16 rfl) (by decide) (fun c60 => ?_) (fun c60 => ?_)
    · replace hw := hw.1 c60
      refine v_aload_n X 1 rfl (gD D_X11_send_0 21 rfl) rfl ?_
      refine v_aload_n X 0 rfl (gD D_X11_send_0 22 rfl) rfl ?_
      refine v_null X (gD D_X11_send_0 23 rfl) ?_
      refine v_nul 6 ?_
      refine v_callVv X (As := [va_rf (some a58), va_rf none]) (rest := []) (nA := 2) 0 0 k n (fun ht => c_X11_letGo htr (ht.sub [3, 1, 0] rfl) hw) (Or.inl rfl) 3 (κ := 12) rfl (by decide) (rfl : gCl[11]? = some (RX11, TX11, 19)) lk_vRX11_355 (by decide +kernel) rfl rfl (by decide) (by decide) (by decide) rfl rfl (gD D_X11_send_0 24 rfl) (fun s62 hq _ _ => ?_)
      replace hw := hq
      clear hq
      refine v_aload_n X 1 rfl (gD D_X11_send_0 25 rfl) rfl ?_
      refine v_aload_n X 0 rfl (gD D_X11_send_0 26 rfl) rfl ?_
      refine v_callVv X (As := [va_rf (some a58)]) (rest := []) (nA := 1) 0 0 k n (fun ht => c_X11_pack htr (ht.sub [3, 1] rfl) hw) (Or.inl rfl) 3 (κ := 12) rfl (by decide) (rfl : gCl[11]? = some (RX11, TX11, 19)) lk_vRX11_348 (by decide +kernel) rfl rfl (by decide) (by decide) (by decide) rfl rfl (gD D_X11_send_0 27 rfl) (fun s64 hq _ _ => ?_)
      replace hw := hq
      clear hq
      refine v_aload_n X 1 rfl (gD D_X11_send_0 28 rfl) rfl ?_
      refine v_dup X (gD D_X11_send_0 29 rfl) (rf_cat _) ?_
      refine v_getI X RX11 TX11 19 12 11 (by decide) rfl gin11 18 1118 RX11 (Or.inl rfl) 3 rfl rfl (by decide) lk_fRX11_209 (gD D_X11_send_0 30 rfl) ?_
      refine v_iconst X 5 (gD D_X11_send_0 31 rfl) (by decide) ?_
      refine v_aload_n X 1 rfl (gD D_X11_send_0 32 rfl) rfl ?_
      refine v_getI X RX11 TX11 19 12 11 (by decide) rfl gin11 14 1114 RX11 (Or.inl rfl) 3 rfl rfl (by decide) lk_fRX11_352 (gD D_X11_send_0 33 rfl) ?_
      refine v_imul X (gD D_X11_send_0 34 rfl) ?_
      refine v_iadd X (gD D_X11_send_0 35 rfl) ?_
      refine v_putI X RX11 TX11 19 12 11 (by decide) rfl gin11 18 1118 tyX11 tyX11_ok nmX11 RX11 (Or.inl rfl) 3 rfl .int (int_fit _) rfl (by decide) (Or.inl rfl) lk_fRX11_209 rfl rfl (gD D_X11_send_0 36 rfl) (fun s65 es65 => ?_)
      replace hw := hw s65 es65
      refine v_aload_n X 0 rfl (gD D_X11_send_0 37 rfl) rfl ?_
      refine v_iconst X 1 (gD D_X11_send_0 38 rfl) (by decide) ?_
      refine v_putI X RX7 TX7 7 8 7 (by decide) rfl gin7 5 705 tyX7 tyX7_ok nmX7 RX7 (Or.inl rfl) 1 rfl .boolean (bool_fit (by decide)) rfl (by decide) (Or.inl rfl) lk_fRX11_246 rfl rfl (gD D_X11_send_0 39 rfl) (fun s66 es66 => ?_)
      replace hw := hw s66 es66
      refine v_aload_n X 0 rfl (gD D_X11_send_0 40 rfl) rfl ?_
      refine v_aload_n X 1 rfl (gD D_X11_send_0 41 rfl) rfl ?_
      refine v_getI X RX11 TX11 19 12 11 (by decide) rfl gin11 15 1115 RX11 (Or.inl rfl) 3 rfl rfl (by decide) lk_fRX11_139 (gD D_X11_send_0 42 rfl) ?_
      refine v_putI X RX7 TX7 7 8 7 (by decide) rfl gin7 6 706 tyX7 tyX7_ok nmX7 RX7 (Or.inl rfl) 1 rfl .int (int_fit _) rfl (by decide) (Or.inl rfl) lk_fRX11_359 rfl rfl (gD D_X11_send_0 43 rfl) (fun s67 es67 => ?_)
      replace hw := hw s67 es67
      refine v_aload_n X 1 rfl (gD D_X11_send_0 44 rfl) rfl ?_
      refine v_iload_n X 2 rfl (gD D_X11_send_0 45 rfl) rfl ?_
      obtain ⟨k70, n71, k72, n73, h74, h75, hw⟩ := hw
      refine v_callVi X (As := [.int x1]) (rest := []) (nA := 1) k70 n71 k72 n73 (fun ht => c_X11_sendStand htr (ht.sub [3] rfl) hw) (Or.inl rfl) 3 (κ := 12) rfl (by decide) (rfl : gCl[11]? = some (RX11, TX11, 19)) lk_vRX11_362 (by decide +kernel) rfl rfl (by decide) (by decide) (by decide) h74 h75 (gD D_X11_send_0 46 rfl) (fun x68 s69 hq _ _ => ?_)
      replace hw := hq
      clear hq
      exact v_X (v_iret X hr hw (gD D_X11_send_0 47 rfl))
    · replace hw := hw.2 c60
      exact v_throw X hex 3 (by decide +kernel) lk_xRX11_100 lk_xi_3 lk_xaRX11_102 lk_xgRX11_100_102 (gD D_X11_send_0 17 rfl) (gD D_X11_send_0 18 rfl) (gD D_X11_send_0 19 rfl) (gD D_X11_send_0 20 rfl) (by decide) hw
  · replace hw := hw.2 c53
    exact v_throw X hex 1 (by decide +kernel) lk_xRX11_83 lk_xi_1 lk_xaRX11_85 lk_xgRX11_83_85 (gD D_X11_send_0 4 rfl) (gD D_X11_send_0 5 rfl) (gD D_X11_send_0 6 rfl) (gD D_X11_send_0 7 rfl) (by decide) hw
set_option maxRecDepth 100000 in
set_option maxHeartbeats 4000000 in
theorem t_X11_act_132 {p : Program} {l : Launch} {e : Env} {s : State} {m : MethodId} {args : Array Value} {below : List Frame} {meth : Method} {c : Code} {G : GX} {σ0 : St} {mc ms : Nat} {Q : St → Prop} (X : VC p l (rmD 6 mc ms) s m args meth c G 6 mc ms 6 RX11 cX11_act) (hr : meth.sig.returnType = none) (hin : meth.name = yX11_act.name) (htr : l.stackTraces = false) : ∀ (as0 : Nat) (xs1 : Int32) (xs2 : Int32) (σ : St) (k n : Nat), w_X11_act_132 Q  as0 xs1 xs2 σ k n → V p l e (rmD 6 mc ms) s m args below meth c (MQ below (va_Qv Q (gB G 1 σ0) (GA G)) args s mc ms (GA G)) G 1 σ0 mc ms 6 σ k n [(some as0, 9)] 132 [] [.int xs2, .int xs1, va_rf (some as0)] := by
  intro as0 xs1 xs2 σ k n hw
  unfold w_X11_act_132 at hw
  refine v_iadd X (gD D_X11_act_0 70 rfl) ?_
  refine v_putI X RX8 TX8 4 9 8 (by decide) rfl gin8 2 802 tyX8 tyX8_ok nmX8 RX8 (Or.inl rfl) 0 rfl .int (int_fit _) rfl (by decide) (Or.inl rfl) lk_fRX11_311 rfl rfl (gD D_X11_act_0 71 rfl) (fun s72 es72 => ?_)
  replace hw := hw s72 es72
  refine v_goto X 168 (gD D_X11_act_0 72 rfl) (by decide) ?_
  exact v_vret X hr hw (gD D_X11_act_0 87 rfl)
set_option maxRecDepth 100000 in
set_option maxHeartbeats 4000000 in
theorem t_X11_act_104 {p : Program} {l : Launch} {e : Env} {s : State} {m : MethodId} {args : Array Value} {below : List Frame} {meth : Method} {c : Code} {G : GX} {σ0 : St} {mc ms : Nat} {Q : St → Prop} (X : VC p l (rmD 6 mc ms) s m args meth c G 6 mc ms 6 RX11 cX11_act) (hr : meth.sig.returnType = none) (hin : meth.name = yX11_act.name) (htr : l.stackTraces = false) : ∀ (a0 : Nat) (a1 : Nat) (x4 : Int32) (x5 : Int32) (σ : St) (k n : Nat), w_X11_act_104 Q  a0 a1 x4 x5 σ k n → V p l e (rmD 6 mc ms) s m args below meth c (MQ below (va_Qv Q (gB G 1 σ0) (GA G)) args s mc ms (GA G)) G 1 σ0 mc ms 6 σ k n [(some a0, 12), (some a1, 9)] 104 [(0, va_rf (some a0)), (1, va_rf (some a1)), (4, .int x4), (5, .int x5)] [] := by
  intro a0 a1 x4 x5 σ k n hw
  unfold w_X11_act_104 at hw
  refine v_aload_n X 1 rfl (gD D_X11_act_0 56 rfl) rfl ?_
  refine v_getI X RX8 TX8 4 9 8 (by decide) rfl gin8 1 801 RX8 (Or.inl rfl) 1 rfl rfl (by decide) lk_fRX11_308 (gD D_X11_act_0 57 rfl) ?_
  refine v_iload X 2 rfl (gD D_X11_act_0 58 rfl) ?_
  refine v_icmp_ne X 139 (gD D_X11_act_0 59 rfl) (by decide) (fun c63 => ?_) (fun c63 => ?_)
  · replace hw := hw.1 c63
    refine v_aload_n X 0 rfl (gD D_X11_act_0 73 rfl) rfl ?_
    refine v_iload X 2 rfl (gD D_X11_act_0 74 rfl) ?_
    refine v_callVq X (As := [.int x4]) (rest := []) (nA := 1) 0 0 k n (fun ht => c_X11_robotIn htr (ht.sub [0] rfl) hw) (Or.inl rfl) (by decide) 0 (κ := 12) rfl (by decide) (rfl : gCl[11]? = some (RX11, TX11, 19)) lk_vRX11_496 (by decide +kernel) rfl rfl (by decide) (by decide) (by decide) rfl rfl (gD D_X11_act_0 75 rfl) (fun o64 s65 hq _ _ => ?_)
    replace hw := hq
    clear hq
    refine v_ifnonnull X 162 (gD D_X11_act_0 76 rfl) (by decide) (fun a67 c66 => ?_) (fun c66 => ?_)
    · replace hw := hw.2 a67 c66
      subst c66
      refine v_aload_n X 1 rfl (gD D_X11_act_0 84 rfl) rfl ?_
      refine v_iload X 2 rfl (gD D_X11_act_0 85 rfl) ?_
      refine v_putI X RX8 TX8 4 9 8 (by decide) rfl gin8 3 803 tyX8 tyX8_ok nmX8 RX8 (Or.inl rfl) 2 rfl .int (int_fit _) rfl (by decide) (Or.inl rfl) lk_fRX11_481 rfl rfl (gD D_X11_act_0 86 rfl) (fun s68 es68 => ?_)
      replace hw := hw s68 es68
      exact v_vret X hr hw (gD D_X11_act_0 87 rfl)
    · replace hw := hw.1 c66
      subst c66
      refine v_aload_n X 1 rfl (gD D_X11_act_0 77 rfl) rfl ?_
      refine v_iload X 2 rfl (gD D_X11_act_0 78 rfl) ?_
      refine v_putI X RX8 TX8 4 9 8 (by decide) rfl gin8 1 801 tyX8 tyX8_ok nmX8 RX8 (Or.inl rfl) 2 rfl .int (int_fit _) rfl (by decide) (Or.inl rfl) lk_fRX11_308 rfl rfl (gD D_X11_act_0 79 rfl) (fun s69 es69 => ?_)
      replace hw := hw s69 es69
      refine v_aload_n X 1 rfl (gD D_X11_act_0 80 rfl) rfl ?_
      refine v_iconst X 0 (gD D_X11_act_0 81 rfl) (by decide) ?_
      refine v_putI X RX8 TX8 4 9 8 (by decide) rfl gin8 2 802 tyX8 tyX8_ok nmX8 RX8 (Or.inl rfl) 2 rfl .int (int_fit _) rfl (by decide) (Or.inl rfl) lk_fRX11_311 rfl rfl (gD D_X11_act_0 82 rfl) (fun s70 es70 => ?_)
      replace hw := hw s70 es70
      refine v_goto X 168 (gD D_X11_act_0 83 rfl) (by decide) ?_
      exact v_vret X hr hw (gD D_X11_act_0 87 rfl)
  · replace hw := hw.2 c63
    refine v_aload_n X 1 rfl (gD D_X11_act_0 60 rfl) rfl ?_
    refine v_dup X (gD D_X11_act_0 61 rfl) (rf_cat _) ?_
    refine v_getI X RX8 TX8 4 9 8 (by decide) rfl gin8 2 802 RX8 (Or.inl rfl) 1 rfl rfl (by decide) lk_fRX11_311 (gD D_X11_act_0 62 rfl) ?_
    refine v_aload_n X 1 rfl (gD D_X11_act_0 63 rfl) rfl ?_
    refine v_getI X RX8 TX8 4 9 8 (by decide) rfl gin8 2 802 RX8 (Or.inl rfl) 1 rfl rfl (by decide) lk_fRX11_311 (gD D_X11_act_0 64 rfl) ?_
    refine v_iload X 3 rfl (gD D_X11_act_0 65 rfl) ?_
    refine v_icmp_ge X 131 (gD D_X11_act_0 66 rfl) (by decide) (fun c71 => ?_) (fun c71 => ?_)
    · replace hw := hw.1 c71
      refine v_iconst X (-1) (gD D_X11_act_0 69 rfl) (by decide) ?_
      exact v_sub [1] [] rfl rfl (t_X11_act_132 X hr hin htr  a1 (sI σ 802 a1) (-1) σ k n hw)
    · replace hw := hw.2 c71
      refine v_iconst X 1 (gD D_X11_act_0 67 rfl) (by decide) ?_
      refine v_goto X 132 (gD D_X11_act_0 68 rfl) (by decide) ?_
      exact v_sub [1] [] rfl rfl (t_X11_act_132 X hr hin htr  a1 (sI σ 802 a1) 1 σ k n hw)
set_option maxRecDepth 100000 in
set_option maxHeartbeats 4000000 in
theorem t_X11_act_66 {p : Program} {l : Launch} {e : Env} {s : State} {m : MethodId} {args : Array Value} {below : List Frame} {meth : Method} {c : Code} {G : GX} {σ0 : St} {mc ms : Nat} {Q : St → Prop} (X : VC p l (rmD 6 mc ms) s m args meth c G 6 mc ms 6 RX11 cX11_act) (hr : meth.sig.returnType = none) (hin : meth.name = yX11_act.name) (htr : l.stackTraces = false) : ∀ (a0 : Nat) (a1 : Nat) (o2 : Option Nat) (x3 : Int32) (x4 : Int32) (x5 : Int32) (σ : St) (k n : Nat), w_X11_act_66 Q  a0 a1 o2 x3 x4 x5 σ k n → V p l e (rmD 6 mc ms) s m args below meth c (MQ below (va_Qv Q (gB G 1 σ0) (GA G)) args s mc ms (GA G)) G 1 σ0 mc ms 6 σ k n [(some a0, 12), (some a1, 9), (o2, 11)] 66 [(0, va_rf (some a0)), (1, va_rf (some a1)), (2, va_rf o2), (3, .int x3), (4, .int x4), (5, .int x5)] [] := by
  intro a0 a1 o2 x3 x4 x5 σ k n hw
  unfold w_X11_act_66 at hw
  refine v_iload_n X 3 rfl (gD D_X11_act_0 38 rfl) rfl ?_
  refine v_iconst X (-1) (gD D_X11_act_0 39 rfl) (by decide) ?_
  refine v_icmp_ne X 78 (gD D_X11_act_0 40 rfl) (by decide) (fun c61 => ?_) (fun c61 => ?_)
  · replace hw := hw.1 c61
    refine v_aload_n X 1 rfl (gD D_X11_act_0 44 rfl) rfl ?_
    refine v_getI X RX8 TX8 4 9 8 (by decide) rfl gin8 1 801 RX8 (Or.inl rfl) 1 rfl rfl (by decide) lk_fRX11_308 (gD D_X11_act_0 45 rfl) ?_
    refine v_iload X 4 rfl (gD D_X11_act_0 46 rfl) ?_
    refine v_icmp_ne X 104 (gD D_X11_act_0 47 rfl) (by decide) (fun c62 => ?_) (fun c62 => ?_)
    · replace hw := hw.1 c62
      exact v_sub [0, 1] [0, 1, 4, 5] rfl rfl (t_X11_act_104 X hr hin htr  a0 a1 x4 x5 σ k n hw)
    · replace hw := hw.2 c62
      refine v_aload_n X 1 rfl (gD D_X11_act_0 48 rfl) rfl ?_
      refine v_getI X RX8 TX8 4 9 8 (by decide) rfl gin8 2 802 RX8 (Or.inl rfl) 1 rfl rfl (by decide) lk_fRX11_311 (gD D_X11_act_0 49 rfl) ?_
      refine v_iload X 5 rfl (gD D_X11_act_0 50 rfl) ?_
      refine v_icmp_ne X 104 (gD D_X11_act_0 51 rfl) (by decide) (fun c73 => ?_) (fun c73 => ?_)
      · replace hw := hw.1 c73
        exact v_sub [0, 1] [0, 1, 4, 5] rfl rfl (t_X11_act_104 X hr hin htr  a0 a1 x4 x5 σ k n hw)
      · replace hw := hw.2 c73
        refine v_aload_n X 0 rfl (gD D_X11_act_0 52 rfl) rfl ?_
        refine v_aload_n X 2 rfl (gD D_X11_act_0 53 rfl) rfl ?_
        obtain ⟨a74, rfl, hw⟩ := hw
        obtain ⟨k77, n78, k79, n80, h81, h82, hw⟩ := hw
        refine v_callVv X (As := [va_rf (some a74)]) (rest := []) (nA := 1) k77 n78 k79 n80 (fun ht => c_X11_doStationInSlot htr (ht.sub [0, 2] rfl) hw) (Or.inl rfl) 0 (κ := 12) rfl (by decide) (rfl : gCl[11]? = some (RX11, TX11, 19)) lk_vRX11_493 (by decide +kernel) rfl rfl (by decide) (by decide) (by decide) h81 h82 (gD D_X11_act_0 54 rfl) (fun s76 hq _ _ => ?_)
        replace hw := hq
        clear hq
        refine v_goto X 168 (gD D_X11_act_0 55 rfl) (by decide) ?_
        exact v_vret X hr hw (gD D_X11_act_0 87 rfl)
  · replace hw := hw.2 c61
    refine v_aload_n X 1 rfl (gD D_X11_act_0 41 rfl) rfl ?_
    refine v_callVv X (As := []) (rest := []) (nA := 0) 0 0 k n (fun ht => c_X8_goToFront htr (ht.sub [1] rfl) hw) (Or.inl rfl) 1 (κ := 9) rfl (by decide) (rfl : gCl[8]? = some (RX8, TX8, 4)) lk_vRX11_484 (by decide +kernel) rfl rfl (by decide) (by decide) (by decide) rfl rfl (gD D_X11_act_0 42 rfl) (fun s84 hq _ _ => ?_)
    replace hw := hq
    clear hq
    refine v_goto X 168 (gD D_X11_act_0 43 rfl) (by decide) ?_
    exact v_vret X hr hw (gD D_X11_act_0 87 rfl)
set_option maxRecDepth 100000 in
set_option maxHeartbeats 4000000 in
theorem t_X11_act_37 {p : Program} {l : Launch} {e : Env} {s : State} {m : MethodId} {args : Array Value} {below : List Frame} {meth : Method} {c : Code} {G : GX} {σ0 : St} {mc ms : Nat} {Q : St → Prop} (X : VC p l (rmD 6 mc ms) s m args meth c G 6 mc ms 6 RX11 cX11_act) (hr : meth.sig.returnType = none) (hin : meth.name = yX11_act.name) (htr : l.stackTraces = false) : ∀ (a0 : Nat) (a1 : Nat) (o2 : Option Nat) (x3 : Int32) (xs0 : Int32) (σ : St) (k n : Nat), w_X11_act_37 Q  a0 a1 o2 x3 xs0 σ k n → V p l e (rmD 6 mc ms) s m args below meth c (MQ below (va_Qv Q (gB G 1 σ0) (GA G)) args s mc ms (GA G)) G 1 σ0 mc ms 6 σ k n [(some a0, 12), (some a1, 9), (o2, 11)] 37 [(0, va_rf (some a0)), (1, va_rf (some a1)), (2, va_rf o2), (3, .int x3)] [.int xs0] := by
  intro a0 a1 o2 x3 xs0 σ k n hw
  unfold w_X11_act_37 at hw
  refine v_istore X [(4, .int xs0), (0, va_rf (some a0)), (1, va_rf (some a1)), (2, va_rf o2), (3, .int x3)] (gD D_X11_act_0 22 rfl) (by decide) rfl ?_
  refine v_iload_n X 4 rfl (gD D_X11_act_0 23 rfl) rfl ?_
  refine v_bipush X 6 (gD D_X11_act_0 24 rfl) (by decide) ?_
  refine v_irem X (gD D_X11_act_0 25 rfl) (by decide) ?_
  refine v_topi (fun x59 ex59 => ?_)
  replace hw := hw x59 ex59
  refine v_istore X [(5, .int x59), (4, .int xs0), (0, va_rf (some a0)), (1, va_rf (some a1)), (2, va_rf o2), (3, .int x3)] (gD D_X11_act_0 26 rfl) (by decide) rfl ?_
  refine v_iload_n X 5 rfl (gD D_X11_act_0 27 rfl) rfl ?_
  refine v_iconst X (-1) (gD D_X11_act_0 28 rfl) (by decide) ?_
  refine v_icmp_ne X 66 (gD D_X11_act_0 29 rfl) (by decide) (fun c60 => ?_) (fun c60 => ?_)
  · replace hw := hw.1 c60
    exact v_sub [0, 1, 2] [2, 3, 4, 5, 1, 0] rfl rfl (t_X11_act_66 X hr hin htr  a0 a1 o2 x3 xs0 x59 σ k n hw)
  · replace hw := hw.2 c60
    refine v_aload_n X 3 rfl (gD D_X11_act_0 30 rfl) rfl ?_
    refine v_getI X RX8 TX8 4 9 8 (by decide) rfl gin8 1 801 RX8 (Or.inl rfl) 1 rfl rfl (by decide) lk_fRX11_308 (gD D_X11_act_0 31 rfl) ?_
    refine v_iconst X (-1) (gD D_X11_act_0 32 rfl) (by decide) ?_
    refine v_icmp_ne X 66 (gD D_X11_act_0 33 rfl) (by decide) (fun c85 => ?_) (fun c85 => ?_)
    · replace hw := hw.1 c85
      exact v_sub [0, 1, 2] [2, 3, 4, 5, 1, 0] rfl rfl (t_X11_act_66 X hr hin htr  a0 a1 o2 x3 xs0 x59 σ k n hw)
    · replace hw := hw.2 c85
      refine v_aload_n X 4 rfl (gD D_X11_act_0 34 rfl) rfl ?_
      refine v_iconst X 1 (gD D_X11_act_0 35 rfl) (by decide) ?_
      obtain ⟨a86, rfl, hw⟩ := hw
      refine v_putI X RX10 TX10 7 11 10 (by decide) rfl gin10 6 1006 tyX10 tyX10_ok nmX10 RX10 (Or.inl rfl) 2 rfl .boolean (bool_fit (by decide)) rfl (by decide) (Or.inl rfl) lk_fRX11_490 rfl rfl (gD D_X11_act_0 36 rfl) (fun s87 es87 => ?_)
      replace hw := hw s87 es87
      refine v_goto X 168 (gD D_X11_act_0 37 rfl) (by decide) ?_
      exact v_vret X hr hw (gD D_X11_act_0 87 rfl)
set_option maxRecDepth 100000 in
set_option maxHeartbeats 4000000 in
theorem c_X11_act {l : Launch} {G : GX} (htr : l.stackTraces = false) {k n : Nat} {σ : St} {a0 : Nat} {a1 : Nat} {Q : St → Prop} (ht : tvOk σ [(some a0, 12), (some a1, 9)]) (hw : w_X11_act k n a0 a1 σ Q) : MV l G 1 σ yX11_act cX11_act 6 6 k n [va_rf (some a0), va_rf (some a1)] Q := by
  unfold w_X11_act at hw
  refine m_start RX11 (by decide) htr ht (Nat.le_of_ble_eq_true rfl) rfl (lv := [(0, va_rf (some a0)), (1, va_rf (some a1))]) (d := 1) (fun p e s m args below meth c X hr hin => ?_)
  refine v_aload_n X 1 rfl (gD D_X11_act_0 0 rfl) rfl ?_
  refine v_iconst X (-1) (gD D_X11_act_0 1 rfl) (by decide) ?_
  refine v_putI X RX8 TX8 4 9 8 (by decide) rfl gin8 3 803 tyX8 tyX8_ok nmX8 RX8 (Or.inl rfl) 1 rfl .int (int_fit _) rfl (by decide) (Or.inl rfl) lk_fRX11_481 rfl rfl (gD D_X11_act_0 2 rfl) (fun s51 es51 => ?_)
  replace hw := hw s51 es51
  refine v_aload_n X 1 rfl (gD D_X11_act_0 3 rfl) rfl ?_
  refine v_callVq X (As := []) (rest := []) (nA := 0) 0 0 k n (fun ht => c_X8_firstTask htr (ht.sub [1] rfl) hw) (Or.inl rfl) (by decide) 1 (κ := 9) rfl (by decide) (rfl : gCl[8]? = some (RX8, TX8, 4)) lk_vRX11_314 (by decide +kernel) rfl rfl (by decide) (by decide) (by decide) rfl rfl (gD D_X11_act_0 4 rfl) (fun o52 s53 hq _ _ => ?_)
  replace hw := hq
  clear hq
  refine v_astore_n X [(2, va_rf o52), (0, va_rf (some a0)), (1, va_rf (some a1))] (gD D_X11_act_0 5 rfl) rfl (by decide) rfl ?_
  refine v_aload_n X 0 rfl (gD D_X11_act_0 6 rfl) rfl ?_
  refine v_ifnonnull X 19 (gD D_X11_act_0 7 rfl) (by decide) (fun a55 c54 => ?_) (fun c54 => ?_)
  · replace hw := hw.2 a55 c54
    subst c54
    refine v_aload_n X 0 rfl (gD D_X11_act_0 11 rfl) rfl ?_
    refine v_callVi X (As := []) (rest := []) (nA := 0) 0 0 k n (fun ht => c_X10_nextStation htr (ht.sub [0] rfl) hw) (Or.inl rfl) 0 (κ := 11) rfl (by decide) (rfl : gCl[10]? = some (RX10, TX10, 7)) lk_vRX11_487 (by decide +kernel) rfl rfl (by decide) (by decide) (by decide) rfl rfl (gD D_X11_act_0 12 rfl) (fun x56 s57 hq _ _ => ?_)
    replace hw := hq
    clear hq
    refine v_istore_n X [(3, .int x56), (2, va_rf (some a55)), (0, va_rf (some a0)), (1, va_rf (some a1))] (gD D_X11_act_0 13 rfl) rfl (by decide) rfl ?_
    refine v_iload_n X 0 rfl (gD D_X11_act_0 14 rfl) rfl ?_
    refine v_iconst X (-1) (gD D_X11_act_0 15 rfl) (by decide) ?_
    refine v_icmp_ne X 33 (gD D_X11_act_0 16 rfl) (by decide) (fun c58 => ?_) (fun c58 => ?_)
    · replace hw := hw.1 c58
      refine v_iload_n X 0 rfl (gD D_X11_act_0 19 rfl) rfl ?_
      refine v_bipush X 6 (gD D_X11_act_0 20 rfl) (by decide) ?_
      refine v_idiv X (gD D_X11_act_0 21 rfl) (by decide) ?_
      exact v_sub [1, 2, 0] [2, 3, 1, 0] rfl rfl (t_X11_act_37 X hr hin htr  a0 a1 (some a55) x56 (x56 / 6) s57 k n hw)
    · replace hw := hw.2 c58
      refine v_iconst X (-1) (gD D_X11_act_0 17 rfl) (by decide) ?_
      refine v_goto X 37 (gD D_X11_act_0 18 rfl) (by decide) ?_
      exact v_sub [1, 2, 0] [2, 3, 1, 0] rfl rfl (t_X11_act_37 X hr hin htr  a0 a1 (some a55) x56 (-1) s57 k n hw)
  · replace hw := hw.1 c54
    subst c54
    refine v_aload_n X 2 rfl (gD D_X11_act_0 8 rfl) rfl ?_
    refine v_callVv X (As := []) (rest := []) (nA := 0) 0 0 k n (fun ht => c_X8_goToFront htr (ht.sub [2] rfl) hw) (Or.inl rfl) 2 (κ := 9) rfl (by decide) (rfl : gCl[8]? = some (RX8, TX8, 4)) lk_vRX11_484 (by decide +kernel) rfl rfl (by decide) (by decide) (by decide) rfl rfl (gD D_X11_act_0 9 rfl) (fun s89 hq _ _ => ?_)
    replace hw := hq
    clear hq
    exact v_vret X hr hw (gD D_X11_act_0 10 rfl)
set_option maxRecDepth 100000 in
set_option maxHeartbeats 4000000 in
theorem c_X11_hold {l : Launch} {G : GX} (htr : l.stackTraces = false) {k n : Nat} {σ : St} {a0 : Nat} {o1 : Option Nat} {o2 : Option Nat} {x3 : Int32} {a4 : Nat} {x5 : Int32} {Q : Option Nat → St → Prop} (ht : tvOk σ [(some a0, 12), (o1, 8), (o2, 5), (some a4, 6)]) (hw : w_X11_hold k n a0 o1 o2 x3 a4 x5 σ Q) : MR l G 1 σ yX11_hold cX11_hold 7 (some (.object RX2)) 6 k n [va_rf (some a0), va_rf o1, va_rf o2, .int x3, va_rf (some a4), .int x5] 3 Q := by
  unfold w_X11_hold at hw
  refine m_start RX11 (by decide) htr ht (by simp [lg_sl, rf_cat, ct_i]) (by simp [lv_args, rf_cat, ct_i]) (lv := [(0, va_rf (some a0)), (1, va_rf o1), (2, va_rf o2), (3, .int x3), (4, va_rf (some a4)), (5, .int x5)]) (d := 1) (fun p e s m args below meth c X hr hin => ?_)
  obtain ⟨k51, n52, h53, h54, hw⟩ := hw
  refine v_new X RX2 TX2 6 3 2 (by decide) rfl gin2 tyX2 tyX2_ok lk_kRX11_262 lk_tX2 lk_n_RX2 dfl_X2 k51 n52 h53 h54 (gD D_X11_hold_0 0 rfl) (fun a55 s56 ha55 es56 => ?_)
  replace hw := hw a55 s56 ha55 es56
  refine v_dup X (gD D_X11_hold_0 1 rfl) (rf_cat _) ?_
  refine v_aload_n X 1 rfl (gD D_X11_hold_0 2 rfl) rfl ?_
  refine v_aload_n X 2 rfl (gD D_X11_hold_0 3 rfl) rfl ?_
  refine v_iload_n X 3 rfl (gD D_X11_hold_0 4 rfl) rfl ?_
  refine v_aload X 4 rfl (gD D_X11_hold_0 5 rfl) ?_
  refine v_iload X 5 rfl (gD D_X11_hold_0 6 rfl) ?_
  refine v_callIv X (As := [va_rf o1, va_rf o2, .int x3, va_rf (some a4), .int x5]) (rest := [va_rf (some a55)]) (nA := 5) 0 0 k51 n52 (fun ht => c_X2_init htr (ht.sub [0, 2, 3, 4] rfl) hw) (Or.inl rfl) lk_c_X2_init lk_n_RX2 lk_mRX11_399 lk_i_X2_init rfl (by decide +kernel) rfl rfl (by simp [rf_cat, ct_i]) (by decide) (by decide) rfl rfl (gD D_X11_hold_0 7 rfl) (fun s58 hq _ _ => ?_)
  replace hw := hq
  clear hq
  refine v_astore X [(6, va_rf (some a55)), (0, va_rf (some a0)), (1, va_rf o1), (2, va_rf o2), (3, .int x3), (4, va_rf (some a4)), (5, .int x5)] (gD D_X11_hold_0 8 rfl) (by decide) rfl ?_
  refine v_aload_n X 1 rfl (gD D_X11_hold_0 9 rfl) rfl ?_
  refine v_getR X RX11 TX11 19 12 11 (by decide) rfl gin11 7 1107 RX11 (Or.inl rfl) 1 30 rfl rfl rfl (by decide) lk_fRX11_43 (gD D_X11_hold_0 10 rfl) (fun o59 eo59 => ?_)
  replace hw := hw o59 eo59
  refine v_aload X 0 rfl (gD D_X11_hold_0 11 rfl) ?_
  obtain ⟨a60, rfl, hw⟩ := hw
  obtain ⟨k63, n64, k65, n66, h67, h68, hw⟩ := hw
  refine v_callVi X (As := [va_rf (some a55)]) (rest := []) (nA := 1) k63 n64 k65 n66 (fun ht => c_Jx4a65c_add_9ea2d htr (by decide : isE 3 = true) (ht.sub [0, 1] rfl) hw) (Or.inl rfl) 0 (κ := 30) rfl (by decide) (rfl : gCl[13]? = some (RJx4a65c, TJx4a65c, 3)) lk_vRX11_164 (by decide +kernel) rfl rfl (by decide) (by decide) (by decide) h67 h68 (gD D_X11_hold_0 12 rfl) (fun x61 s62 hq _ _ => ?_)
  replace hw := hq
  clear hq
  refine v_pop X (gD D_X11_hold_0 13 rfl) rfl ?_
  refine v_aload_n X 1 rfl (gD D_X11_hold_0 14 rfl) rfl ?_
  refine v_getR X RX11 TX11 19 12 11 (by decide) rfl gin11 9 1109 RX11 (Or.inl rfl) 2 1 rfl rfl rfl (by decide) lk_fRX11_52 (gD D_X11_hold_0 15 rfl) (fun o69 eo69 => ?_)
  replace hw := hw o69 eo69
  obtain ⟨a70, rfl, hw⟩ := hw
  refine v_getR X RX0 TX0 8 1 0 (by decide) rfl gin0 3 3 RX0 (Or.inl rfl) 0 2 rfl rfl rfl (by decide) lk_fRX11_402 (gD D_X11_hold_0 16 rfl) (fun o71 eo71 => ?_)
  replace hw := hw o71 eo71
  refine v_iload_n X 4 rfl (gD D_X11_hold_0 17 rfl) rfl ?_
  refine v_aload X 5 rfl (gD D_X11_hold_0 18 rfl) ?_
  refine v_getI X RX5 TX5 4 6 5 (by decide) rfl gin5 0 500 RX5 (Or.inl rfl) 7 rfl rfl (by decide) lk_fRX11_167 (gD D_X11_hold_0 19 rfl) ?_
  refine v_iload X 6 rfl (gD D_X11_hold_0 20 rfl) ?_
  obtain ⟨a72, rfl, hw⟩ := hw
  refine v_callVv X (As := [.int x3, .int (sI s62 500 a4), .int x5]) (rest := []) (nA := 3) 0 0 k65 n66 (fun ht => c_X1_add htr (ht.sub [0] rfl) hw) (Or.inl rfl) 0 (κ := 2) rfl (by decide) (rfl : gCl[1]? = some (RX1, TX1, 2)) lk_vRX11_202 (by decide +kernel) rfl rfl (by decide) (by decide) (by decide) rfl rfl (gD D_X11_hold_0 21 rfl) (fun s74 hq _ _ => ?_)
  replace hw := hq
  clear hq
  refine v_aload_n X 3 rfl (gD D_X11_hold_0 22 rfl) rfl ?_
  refine v_ifnull X 59 (gD D_X11_hold_0 23 rfl) (by decide) (fun c75 => ?_) (fun a76 c75 => ?_)
  · replace hw := hw.1 c75
    subst c75
    refine v_aload X 0 rfl (gD D_X11_hold_0 30 rfl) ?_
    exact v_aret X hr (Or.inl ⟨_, rfl⟩) (Or.inr (Or.inr ⟨3, rfl⟩)) hw (gD D_X11_hold_0 31 rfl)
  · replace hw := hw.2 a76 c75
    subst c75
    refine v_aload_n X 3 rfl (gD D_X11_hold_0 24 rfl) rfl ?_
    refine v_dup X (gD D_X11_hold_0 25 rfl) (rf_cat _) ?_
    refine v_getI X RX4 TX4 4 5 4 (by decide) rfl gin4 2 402 RX4 (Or.inl rfl) 6 rfl rfl (by decide) lk_fRX11_405 (gD D_X11_hold_0 26 rfl) ?_
    refine v_iload X 6 rfl (gD D_X11_hold_0 27 rfl) ?_
    refine v_iadd X (gD D_X11_hold_0 28 rfl) ?_
    refine v_putI X RX4 TX4 4 5 4 (by decide) rfl gin4 2 402 tyX4 tyX4_ok nmX4 RX4 (Or.inl rfl) 6 rfl .int (int_fit _) rfl (by decide) (Or.inl rfl) lk_fRX11_405 rfl rfl (gD D_X11_hold_0 29 rfl) (fun s77 es77 => ?_)
    replace hw := hw s77 es77
    refine v_aload X 0 rfl (gD D_X11_hold_0 30 rfl) ?_
    exact v_aret X hr (Or.inl ⟨_, rfl⟩) (Or.inr (Or.inr ⟨3, rfl⟩)) hw (gD D_X11_hold_0 31 rfl)
set_option maxRecDepth 100000 in
set_option maxHeartbeats 4000000 in
theorem c_X11_line {l : Launch} {G : GX} (htr : l.stackTraces = false) {k n : Nat} {σ : St} {a0 : Nat} {x1 : Int32} {x2 : Int32} {x3 : Int32} {Q : Int32 → St → Prop} {Y : Nat → St → Prop} (ht : tvOk σ [(some a0, 12)]) (hw : w_X11_line k n a0 x1 x2 x3 σ Q Y) : MIX l G 1 σ yX11_line cX11_line 5 (some .int) 6 k n [va_rf (some a0), .int x1, .int x2, .int x3] Q Y := by
  unfold w_X11_line at hw
  refine m_startX RX11 (by decide) htr ht (Nat.le_of_ble_eq_true rfl) rfl (lv := [(0, va_rf (some a0)), (1, .int x1), (2, .int x2), (3, .int x3)]) (d := 1) (fun p e s m args below meth c X hr hin hex => ?_)
  refine v_aload_n X 0 rfl (gD D_X11_line_0 0 rfl) rfl ?_
  refine v_iload_n X 1 rfl (gD D_X11_line_0 1 rfl) rfl ?_
  refine v_callVi X (As := [.int x1]) (rest := []) (nA := 1) 0 0 k n (fun ht => c_X11_isOrder htr (ht.sub [0] rfl) hw) (Or.inl rfl) 0 (κ := 12) rfl (by decide) (rfl : gCl[11]? = some (RX11, TX11, 19)) lk_vRX11_240 (by decide +kernel) rfl rfl (by decide) (by decide) (by decide) rfl rfl (gD D_X11_line_0 2 rfl) (fun x51 s52 hq _ _ => ?_)
  replace hw := hq
  clear hq
  refine v_if_eq X 15 (gD D_X11_line_0 3 rfl) (by decide) (fun c53 => ?_) (fun c53 => ?_)
  · replace hw := hw.1 c53
    exact v_throw X hex 1 (by decide +kernel) lk_xRX11_83 lk_xi_1 lk_xaRX11_85 lk_xgRX11_83_85 (gD D_X11_line_0 7 rfl) (gD D_X11_line_0 8 rfl) (gD D_X11_line_0 9 rfl) (gD D_X11_line_0 10 rfl) (by decide) hw
  · replace hw := hw.2 c53
    refine v_iload_n X 2 rfl (gD D_X11_line_0 4 rfl) rfl ?_
    refine v_callSi X (As := [.int x2]) (rest := []) (nA := 1) 0 0 k n (fun ht => c_X11_isItem htr (ht.sub [] rfl) hw) (Or.inl rfl) lk_sRX11_110 (by decide +kernel) rfl rfl (by decide) (by decide) (by decide) rfl rfl (gD D_X11_line_0 5 rfl) (fun x54 s55 hq _ _ => ?_)
    replace hw := hq
    clear hq
    refine v_if_ne X 23 (gD D_X11_line_0 6 rfl) (by decide) (fun c56 => ?_) (fun c56 => ?_)
    · replace hw := hw.1 c56
      refine v_iload_n X 3 rfl (gD D_X11_line_0 11 rfl) rfl ?_
      refine v_iconst X 1 (gD D_X11_line_0 12 rfl) (by decide) ?_
      refine v_bipush X 99 (gD D_X11_line_0 13 rfl) (by decide) ?_
      refine v_callSi X (As := [.int x3, .int 1, .int 99]) (rest := []) (nA := 3) 0 0 k n (fun ht => c_X11_isWithin htr (ht.sub [] rfl) hw) (Or.inl rfl) lk_sRX11_86 (by decide +kernel) rfl rfl (by decide) (by decide) (by decide) rfl rfl (gD D_X11_line_0 14 rfl) (fun x57 s58 hq _ _ => ?_)
      replace hw := hq
      clear hq
      refine v_if_ne X 41 (gD D_X11_line_0 15 rfl) (by decide) (fun c59 => ?_) (fun c59 => ?_)
      · replace hw := hw.1 c59
        refine v_aload_n X 0 rfl (gD D_X11_line_0 20 rfl) rfl ?_
        refine v_getR X RX11 TX11 19 12 11 (by decide) rfl gin11 6 1106 RX11 (Or.inl rfl) 0 30 rfl rfl rfl (by decide) lk_fRX11_40 (gD D_X11_line_0 21 rfl) (fun o60 eo60 => ?_)
        replace hw := hw o60 eo60
        refine v_iload_n X 1 rfl (gD D_X11_line_0 22 rfl) rfl ?_
        obtain ⟨a61, rfl, hw⟩ := hw
        refine v_callVu X (As := [.int x1]) (rest := []) (nA := 1) 0 0 k n (fun ht => c_Jx4a65c_get_915e3 htr (ht.sub [0] rfl) hw) (Or.inl rfl) 0 (κ := 30) rfl (by decide) (rfl : gCl[13]? = some (RJx4a65c, TJx4a65c, 3)) lk_vRX11_153 (by decide +kernel) rfl rfl (by decide) (by decide) (by decide) rfl rfl (gD D_X11_line_0 23 rfl) (fun o62 s63 hq _ _ => ?_)
        replace hw := hq
        clear hq
        obtain ⟨a64, rfl, hw⟩ := hw
        obtain ⟨h65, hw⟩ := hw
        refine v_cast X RX7 TX7 7 8 7 h65 (by decide) rfl lk_kRX11_235 (gD D_X11_line_0 24 rfl) ?_
        refine v_astore X [(4, va_rf (some a64)), (0, va_rf (some a0)), (1, .int x1), (2, .int x2), (3, .int x3)] (gD D_X11_line_0 25 rfl) (by decide) rfl ?_
        refine v_aload X 0 rfl (gD D_X11_line_0 26 rfl) ?_
        refine v_getR X RX7 TX7 7 8 7 (by decide) rfl gin7 4 704 RX7 (Or.inl rfl) 0 30 rfl rfl rfl (by decide) lk_fRX11_243 (gD D_X11_line_0 27 rfl) (fun o66 eo66 => ?_)
        replace hw := hw o66 eo66
        obtain ⟨a67, rfl, hw⟩ := hw
        refine v_callVi X (As := []) (rest := []) (nA := 0) 0 0 k n (fun ht => c_Jx4a65c_size_8abf5 htr (ht.sub [0] rfl) hw) (Or.inl rfl) 0 (κ := 30) rfl (by decide) (rfl : gCl[13]? = some (RJx4a65c, TJx4a65c, 3)) lk_vRX11_145 (by decide +kernel) rfl rfl (by decide) (by decide) (by decide) rfl rfl (gD D_X11_line_0 28 rfl) (fun x68 s69 hq _ _ => ?_)
        replace hw := hq
        clear hq
        refine v_iconst X 3 (gD D_X11_line_0 29 rfl) (by decide) ?_
        refine v_icmp_ge X 74 (gD D_X11_line_0 30 rfl) (by decide) (fun c70 => ?_) (fun c70 => ?_)
        · replace hw := hw.1 c70
          exact v_throw X hex 3 (by decide +kernel) lk_xRX11_100 lk_xi_3 lk_xaRX11_102 lk_xgRX11_100_102 (gD D_X11_line_0 34 rfl) (gD D_X11_line_0 35 rfl) (gD D_X11_line_0 36 rfl) (gD D_X11_line_0 37 rfl) (by decide) hw
        · replace hw := hw.2 c70
          refine v_aload X 0 rfl (gD D_X11_line_0 31 rfl) ?_
          refine v_getI X RX7 TX7 7 8 7 (by decide) rfl gin7 5 705 RX7 (Or.inl rfl) 1 rfl rfl (by decide) lk_fRX11_246 (gD D_X11_line_0 32 rfl) ?_
          refine v_if_eq X 82 (gD D_X11_line_0 33 rfl) (by decide) (fun c71 => ?_) (fun c71 => ?_)
          · replace hw := hw.1 c71
            refine v_aload X 0 rfl (gD D_X11_line_0 38 rfl) ?_
            refine v_getR X RX7 TX7 7 8 7 (by decide) rfl gin7 4 704 RX7 (Or.inl rfl) 1 30 rfl rfl rfl (by decide) lk_fRX11_243 (gD D_X11_line_0 39 rfl) (fun o72 eo72 => ?_)
            replace hw := hw o72 eo72
            obtain ⟨k73, n74, h75, h76, hw⟩ := hw
            refine v_new X RX4 TX4 4 5 4 (by decide) rfl gin4 tyX4 tyX4_ok lk_kRX11_249 lk_tX4 lk_n_RX4 dfl_X4 k73 n74 h75 h76 (gD D_X11_line_0 40 rfl) (fun a77 s78 ha77 es78 => ?_)
            replace hw := hw a77 s78 ha77 es78
            refine v_dup X (gD D_X11_line_0 41 rfl) (rf_cat _) ?_
            refine v_aload_n X 1 rfl (gD D_X11_line_0 42 rfl) rfl ?_
            refine v_getR X RX11 TX11 19 12 11 (by decide) rfl gin11 1 1101 RX11 (Or.inl rfl) 5 25 rfl rfl rfl (by decide) lk_fRX11_17 (gD D_X11_line_0 43 rfl) (fun o79 eo79 => ?_)
            replace hw := hw o79 eo79
            refine v_iload_n X 3 rfl (gD D_X11_line_0 44 rfl) rfl ?_
            obtain ⟨a80, rfl, hw⟩ := hw
            obtain ⟨h81, hw⟩ := hw
            refine v_aald X 0 4 rfl (by decide) h81 (gD D_X11_line_0 45 rfl) (fun o82 eo82 => ?_)
            replace hw := hw o82 eo82
            refine v_iload_n X 4 rfl (gD D_X11_line_0 46 rfl) rfl ?_
            obtain ⟨a83, rfl, hw⟩ := hw
            refine v_callIv X (As := [va_rf (some a83), .int x3]) (rest := [va_rf (some a77), va_rf o72]) (nA := 2) 0 0 k73 n74 (fun ht => c_X4_init htr (ht.sub [2, 0] rfl) hw) (Or.inl rfl) lk_c_X4_init lk_n_RX4 lk_mRX11_251 lk_i_X4_init rfl (by decide +kernel) rfl rfl (by simp [rf_cat, ct_i]) (by decide) (by decide) rfl rfl (gD D_X11_line_0 47 rfl) (fun s85 hq _ _ => ?_)
            replace hw := hq
            clear hq
            obtain ⟨a86, rfl, hw⟩ := hw
            obtain ⟨k89, n90, k91, n92, h93, h94, hw⟩ := hw
            refine v_callVi X (As := [va_rf (some a77)]) (rest := []) (nA := 1) k89 n90 k91 n92 (fun ht => c_Jx4a65c_add_9ea2d htr (by decide : isE 5 = true) (ht.sub [3, 2] rfl) hw) (Or.inl rfl) 3 (κ := 30) rfl (by decide) (rfl : gCl[13]? = some (RJx4a65c, TJx4a65c, 3)) lk_vRX11_164 (by decide +kernel) rfl rfl (by decide) (by decide) (by decide) h93 h94 (gD D_X11_line_0 48 rfl) (fun x87 s88 hq _ _ => ?_)
            replace hw := hq
            clear hq
            refine v_pop X (gD D_X11_line_0 49 rfl) rfl ?_
            refine v_aload X 0 rfl (gD D_X11_line_0 50 rfl) ?_
            refine v_getR X RX7 TX7 7 8 7 (by decide) rfl gin7 4 704 RX7 (Or.inl rfl) 5 30 rfl rfl rfl (by decide) lk_fRX11_243 (gD D_X11_line_0 51 rfl) (fun o95 eo95 => ?_)
            replace hw := hw o95 eo95
            obtain ⟨a96, rfl, hw⟩ := hw
            refine v_callVi X (As := []) (rest := []) (nA := 0) 0 0 k91 n92 (fun ht => c_Jx4a65c_size_8abf5 htr (ht.sub [0] rfl) hw) (Or.inl rfl) 0 (κ := 30) rfl (by decide) (rfl : gCl[13]? = some (RJx4a65c, TJx4a65c, 3)) lk_vRX11_145 (by decide +kernel) rfl rfl (by decide) (by decide) (by decide) rfl rfl (gD D_X11_line_0 52 rfl) (fun x97 s98 hq _ _ => ?_)
            replace hw := hq
            clear hq
            exact v_X (v_iret X hr hw (gD D_X11_line_0 53 rfl))
          · replace hw := hw.2 c71
            exact v_throw X hex 3 (by decide +kernel) lk_xRX11_100 lk_xi_3 lk_xaRX11_102 lk_xgRX11_100_102 (gD D_X11_line_0 34 rfl) (gD D_X11_line_0 35 rfl) (gD D_X11_line_0 36 rfl) (gD D_X11_line_0 37 rfl) (by decide) hw
      · replace hw := hw.2 c59
        exact v_throw X hex 2 (by decide +kernel) lk_xRX11_90 lk_xi_2 lk_xaRX11_92 lk_xgRX11_90_92 (gD D_X11_line_0 16 rfl) (gD D_X11_line_0 17 rfl) (gD D_X11_line_0 18 rfl) (gD D_X11_line_0 19 rfl) (by decide) hw
    · replace hw := hw.2 c56
      exact v_throw X hex 1 (by decide +kernel) lk_xRX11_83 lk_xi_1 lk_xaRX11_85 lk_xgRX11_83_85 (gD D_X11_line_0 7 rfl) (gD D_X11_line_0 8 rfl) (gD D_X11_line_0 9 rfl) (gD D_X11_line_0 10 rfl) (by decide) hw
set_option maxRecDepth 100000 in
set_option maxHeartbeats 4000000 in
theorem t_X11_lot_116 {p : Program} {l : Launch} {e : Env} {s : State} {m : MethodId} {args : Array Value} {below : List Frame} {meth : Method} {c : Code} {G : GX} {σ0 : St} {mc ms : Nat} {Q : Int32 → St → Prop} {Y : Nat → St → Prop} (X : VC p l (rmD 6 mc ms) s m args meth c G 6 mc ms 5 RX11 cX11_lot) (hr : meth.sig.returnType = (some .int)) (hin : meth.name = yX11_lot.name) (htr : l.stackTraces = false) (hex : ∀ x ∈ c.exceptionTable.toList, False) : ∀ (a0 : Nat) (a3 : Nat) (x4 : Int32) (σ : St) (k n : Nat), w_X11_lot_116 Q Y  a0 a3 x4 σ k n → V p l e (rmD 6 mc ms) s m args below meth c (vx_MQ below (va_Qi Q (gB G 1 σ0) (GA G)) (gX G 1 σ0 Y) args s mc ms (GA G)) G 1 σ0 mc ms 5 σ k n [(some a0, 12), (some a3, 6)] 116 [(0, va_rf (some a0)), (3, va_rf (some a3)), (4, .int x4)] [] := by
  intro a0 a3 x4 σ k n hw
  unfold w_X11_lot_116 at hw
  refine v_aload_n X 0 rfl (gD D_X11_lot_0 54 rfl) rfl ?_
  refine v_getR X RX11 TX11 19 12 11 (by decide) rfl gin11 4 1104 RX11 (Or.inl rfl) 0 30 rfl rfl rfl (by decide) lk_fRX11_34 (gD D_X11_lot_0 55 rfl) (fun o84 eo84 => ?_)
  replace hw := hw o84 eo84
  refine v_iload X 2 rfl (gD D_X11_lot_0 56 rfl) ?_
  refine v_aload_n X 1 rfl (gD D_X11_lot_0 57 rfl) rfl ?_
  obtain ⟨a85, rfl, hw⟩ := hw
  obtain ⟨k88, n89, k90, n91, h92, h93, hw⟩ := hw
  refine v_callVv X (As := [.int x4, va_rf (some a3)]) (rest := []) (nA := 2) k88 n89 k90 n91 (fun ht => c_Jx4a65c_add_7a177 htr (by decide : isE 6 = true) (ht.sub [0, 2] rfl) hw) (Or.inl rfl) 0 (κ := 30) rfl (by decide) (rfl : gCl[13]? = some (RJx4a65c, TJx4a65c, 3)) lk_vRX11_160 (by decide +kernel) rfl rfl (by decide) (by decide) (by decide) h92 h93 (gD D_X11_lot_0 58 rfl) (fun s87 hq _ _ => ?_)
  replace hw := hq
  clear hq
  refine v_aload_n X 0 rfl (gD D_X11_lot_0 59 rfl) rfl ?_
  refine v_getR X RX11 TX11 19 12 11 (by decide) rfl gin11 3 1103 RX11 (Or.inl rfl) 1 30 rfl rfl rfl (by decide) lk_fRX11_30 (gD D_X11_lot_0 60 rfl) (fun o94 eo94 => ?_)
  replace hw := hw o94 eo94
  refine v_aload_n X 1 rfl (gD D_X11_lot_0 61 rfl) rfl ?_
  obtain ⟨a95, rfl, hw⟩ := hw
  obtain ⟨k98, n99, k100, n101, h102, h103, hw⟩ := hw
  refine v_callVi X (As := [va_rf (some a3)]) (rest := []) (nA := 1) k98 n99 k100 n101 (fun ht => c_Jx4a65c_add_9ea2d htr (by decide : isE 6 = true) (ht.sub [0, 3] rfl) hw) (Or.inl rfl) 0 (κ := 30) rfl (by decide) (rfl : gCl[13]? = some (RJx4a65c, TJx4a65c, 3)) lk_vRX11_164 (by decide +kernel) rfl rfl (by decide) (by decide) (by decide) h102 h103 (gD D_X11_lot_0 62 rfl) (fun x96 s97 hq _ _ => ?_)
  replace hw := hq
  clear hq
  refine v_pop X (gD D_X11_lot_0 63 rfl) rfl ?_
  refine v_aload_n X 1 rfl (gD D_X11_lot_0 64 rfl) rfl ?_
  refine v_getI X RX5 TX5 4 6 5 (by decide) rfl gin5 0 500 RX5 (Or.inl rfl) 3 rfl rfl (by decide) lk_fRX11_167 (gD D_X11_lot_0 65 rfl) ?_
  exact v_X (v_iret X hr hw (gD D_X11_lot_0 66 rfl))
set_option maxRecDepth 100000 in
set_option maxHeartbeats 4000000 in
theorem t_X11_lot_79 {p : Program} {l : Launch} {e : Env} {s : State} {m : MethodId} {args : Array Value} {below : List Frame} {meth : Method} {c : Code} {G : GX} {σ0 : St} {mc ms : Nat} {Q : Int32 → St → Prop} {Y : Nat → St → Prop} (X : VC p l (rmD 6 mc ms) s m args meth c G 6 mc ms 5 RX11 cX11_lot) (hr : meth.sig.returnType = (some .int)) (hin : meth.name = yX11_lot.name) (htr : l.stackTraces = false) (hex : ∀ x ∈ c.exceptionTable.toList, False) : ∀ (f : Nat) (a0 : Nat) (x2 : Int32) (a3 : Nat) (x4 : Int32) (σ : St) (k n : Nat), w_X11_lot_79 Q Y  f a0 x2 a3 x4 σ k n → V p l e (rmD 6 mc ms) s m args below meth c (vx_MQ below (va_Qi Q (gB G 1 σ0) (GA G)) (gX G 1 σ0 Y) args s mc ms (GA G)) G 1 σ0 mc ms 5 σ k n [(some a0, 12), (some a3, 6)] 79 [(0, va_rf (some a0)), (2, .int x2), (3, va_rf (some a3)), (4, .int x4)] [] := by
  intro f
  induction f with
  | zero => intro a0 x2 a3 x4 σ k n hw; exact hw.elim
  | succ f ih =>
    intro a0 x2 a3 x4 σ k n hw
    unfold w_X11_lot_79 at hw
    refine v_iload X 3 rfl (gD D_X11_lot_0 39 rfl) ?_
    refine v_aload_n X 0 rfl (gD D_X11_lot_0 40 rfl) rfl ?_
    refine v_getR X RX11 TX11 19 12 11 (by decide) rfl gin11 4 1104 RX11 (Or.inl rfl) 0 30 rfl rfl rfl (by decide) lk_fRX11_34 (gD D_X11_lot_0 41 rfl) (fun o79 eo79 => ?_)
    replace hw := hw o79 eo79
    obtain ⟨a80, rfl, hw⟩ := hw
    refine v_callVi X (As := []) (rest := [.int x4]) (nA := 0) 0 0 k n (fun ht => c_Jx4a65c_size_8abf5 htr (ht.sub [0] rfl) hw) (Or.inl rfl) 0 (κ := 30) rfl (by decide) (rfl : gCl[13]? = some (RJx4a65c, TJx4a65c, 3)) lk_vRX11_145 (by decide +kernel) rfl rfl (by simp [rf_cat, ct_i]) (by decide) (by decide) rfl rfl (gD D_X11_lot_0 42 rfl) (fun x81 s82 hq _ _ => ?_)
    replace hw := hq
    clear hq
    refine v_icmp_ge X 116 (gD D_X11_lot_0 43 rfl) (by decide) (fun c83 => ?_) (fun c83 => ?_)
    · replace hw := hw.1 c83
      exact v_sub [1, 2] [0, 2, 3] rfl rfl (t_X11_lot_116 X hr hin htr hex  a0 a3 x4 s82 k n hw)
    · replace hw := hw.2 c83
      refine v_aload_n X 0 rfl (gD D_X11_lot_0 44 rfl) rfl ?_
      refine v_getR X RX11 TX11 19 12 11 (by decide) rfl gin11 4 1104 RX11 (Or.inl rfl) 1 30 rfl rfl rfl (by decide) lk_fRX11_34 (gD D_X11_lot_0 45 rfl) (fun o104 eo104 => ?_)
      replace hw := hw o104 eo104
      refine v_iload X 3 rfl (gD D_X11_lot_0 46 rfl) ?_
      obtain ⟨a105, rfl, hw⟩ := hw
      refine v_callVu X (As := [.int x4]) (rest := []) (nA := 1) 0 0 k n (fun ht => c_Jx4a65c_get_915e3 htr (ht.sub [0] rfl) hw) (Or.inl rfl) 0 (κ := 30) rfl (by decide) (rfl : gCl[13]? = some (RJx4a65c, TJx4a65c, 3)) lk_vRX11_153 (by decide +kernel) rfl rfl (by decide) (by decide) (by decide) rfl rfl (gD D_X11_lot_0 47 rfl) (fun o106 s107 hq _ _ => ?_)
      replace hw := hq
      clear hq
      obtain ⟨a108, rfl, hw⟩ := hw
      obtain ⟨h109, hw⟩ := hw
      refine v_cast X RX5 TX5 4 6 5 h109 (by decide) rfl lk_kRX11_148 (gD D_X11_lot_0 48 rfl) ?_
      refine v_getI X RX5 TX5 4 6 5 (by decide) rfl gin5 2 502 RX5 (Or.inl rfl) 0 rfl rfl (by decide) lk_fRX11_157 (gD D_X11_lot_0 49 rfl) ?_
      refine v_iload_n X 1 rfl (gD D_X11_lot_0 50 rfl) rfl ?_
      refine v_icmp_gt X 116 (gD D_X11_lot_0 51 rfl) (by decide) (fun c110 => ?_) (fun c110 => ?_)
      · replace hw := hw.1 c110
        exact v_sub [3, 4] [0, 2, 3] rfl rfl (t_X11_lot_116 X hr hin htr hex  a0 a3 x4 s107 k n hw)
      · replace hw := hw.2 c110
        refine v_iinc X (x4 + 1) 3 rfl [(4, .int (x4 + 1)), (0, va_rf (some a0)), (2, .int x2), (3, va_rf (some a3))] (gD D_X11_lot_0 52 rfl) rfl (by decide) rfl ?_
        refine v_goto X 79 (gD D_X11_lot_0 53 rfl) (by decide) ?_
        exact v_sub [3, 4] [1, 2, 3, 0] rfl rfl (ih a0 x2 a3 (x4 + 1) s107 k n hw)
set_option maxRecDepth 100000 in
set_option maxHeartbeats 4000000 in
theorem c_X11_lot {l : Launch} {G : GX} (htr : l.stackTraces = false) {k n : Nat} {σ : St} {a0 : Nat} {x1 : Int32} {x2 : Int32} {Q : Int32 → St → Prop} {Y : Nat → St → Prop} (ht : tvOk σ [(some a0, 12)]) (hw : w_X11_lot k n a0 x1 x2 σ Q Y) : MIX l G 1 σ yX11_lot cX11_lot 5 (some .int) 6 k n [va_rf (some a0), .int x1, .int x2] Q Y := by
  unfold w_X11_lot at hw
  refine m_startX RX11 (by decide) htr ht (Nat.le_of_ble_eq_true rfl) rfl (lv := [(0, va_rf (some a0)), (1, .int x1), (2, .int x2)]) (d := 1) (fun p e s m args below meth c X hr hin hex => ?_)
  refine v_iload_n X 1 rfl (gD D_X11_lot_0 0 rfl) rfl ?_
  refine v_callSi X (As := [.int x1]) (rest := []) (nA := 1) 0 0 k n (fun ht => c_X11_isItem htr (ht.sub [] rfl) hw) (Or.inl rfl) lk_sRX11_110 (by decide +kernel) rfl rfl (by decide) (by decide) (by decide) rfl rfl (gD D_X11_lot_0 1 rfl) (fun x51 s52 hq _ _ => ?_)
  replace hw := hq
  clear hq
  refine v_if_ne X 15 (gD D_X11_lot_0 2 rfl) (by decide) (fun c53 => ?_) (fun c53 => ?_)
  · replace hw := hw.1 c53
    refine v_iload_n X 2 rfl (gD D_X11_lot_0 7 rfl) rfl ?_
    refine v_iconst X 0 (gD D_X11_lot_0 8 rfl) (by decide) ?_
    refine v_sipush X 9999 (gD D_X11_lot_0 9 rfl) (by decide) ?_
    refine v_callSi X (As := [.int x2, .int 0, .int 9999]) (rest := []) (nA := 3) 0 0 k n (fun ht => c_X11_isWithin htr (ht.sub [] rfl) hw) (Or.inl rfl) lk_sRX11_86 (by decide +kernel) rfl rfl (by decide) (by decide) (by decide) rfl rfl (gD D_X11_lot_0 10 rfl) (fun x54 s55 hq _ _ => ?_)
    replace hw := hq
    clear hq
    refine v_if_ne X 34 (gD D_X11_lot_0 11 rfl) (by decide) (fun c56 => ?_) (fun c56 => ?_)
    · replace hw := hw.1 c56
      refine v_aload_n X 0 rfl (gD D_X11_lot_0 16 rfl) rfl ?_
      refine v_getR X RX11 TX11 19 12 11 (by decide) rfl gin11 3 1103 RX11 (Or.inl rfl) 0 30 rfl rfl rfl (by decide) lk_fRX11_30 (gD D_X11_lot_0 17 rfl) (fun o57 eo57 => ?_)
      replace hw := hw o57 eo57
      obtain ⟨a58, rfl, hw⟩ := hw
      refine v_callVi X (As := []) (rest := []) (nA := 0) 0 0 k n (fun ht => c_Jx4a65c_size_8abf5 htr (ht.sub [0] rfl) hw) (Or.inl rfl) 0 (κ := 30) rfl (by decide) (rfl : gCl[13]? = some (RJx4a65c, TJx4a65c, 3)) lk_vRX11_145 (by decide +kernel) rfl rfl (by decide) (by decide) (by decide) rfl rfl (gD D_X11_lot_0 18 rfl) (fun x59 s60 hq _ _ => ?_)
      replace hw := hq
      clear hq
      refine v_bipush X 12 (gD D_X11_lot_0 19 rfl) (by decide) ?_
      refine v_icmp_lt X 54 (gD D_X11_lot_0 20 rfl) (by decide) (fun c61 => ?_) (fun c61 => ?_)
      · replace hw := hw.1 c61
        obtain ⟨k62, n63, h64, h65, hw⟩ := hw
        refine v_new X RX5 TX5 4 6 5 (by decide) rfl gin5 tyX5 tyX5_ok lk_kRX11_148 lk_tX5 lk_n_RX5 dfl_X5 k62 n63 h64 h65 (gD D_X11_lot_0 25 rfl) (fun a66 s67 ha66 es67 => ?_)
        replace hw := hw a66 s67 ha66 es67
        refine v_dup X (gD D_X11_lot_0 26 rfl) (rf_cat _) ?_
        refine v_aload_n X 0 rfl (gD D_X11_lot_0 27 rfl) rfl ?_
        refine v_getR X RX11 TX11 19 12 11 (by decide) rfl gin11 3 1103 RX11 (Or.inl rfl) 2 30 rfl rfl rfl (by decide) lk_fRX11_30 (gD D_X11_lot_0 28 rfl) (fun o68 eo68 => ?_)
        replace hw := hw o68 eo68
        obtain ⟨a69, rfl, hw⟩ := hw
        refine v_callVi X (As := []) (rest := [va_rf (some a66), va_rf (some a66)]) (nA := 0) 0 0 k62 n63 (fun ht => c_Jx4a65c_size_8abf5 htr (ht.sub [0] rfl) hw) (Or.inl rfl) 0 (κ := 30) rfl (by decide) (rfl : gCl[13]? = some (RJx4a65c, TJx4a65c, 3)) lk_vRX11_145 (by decide +kernel) rfl rfl (by simp [rf_cat, ct_i]) (by decide) (by decide) rfl rfl (gD D_X11_lot_0 29 rfl) (fun x70 s71 hq _ _ => ?_)
        replace hw := hq
        clear hq
        refine v_aload_n X 0 rfl (gD D_X11_lot_0 30 rfl) rfl ?_
        refine v_getR X RX11 TX11 19 12 11 (by decide) rfl gin11 1 1101 RX11 (Or.inl rfl) 3 25 rfl rfl rfl (by decide) lk_fRX11_17 (gD D_X11_lot_0 31 rfl) (fun o72 eo72 => ?_)
        replace hw := hw o72 eo72
        refine v_iload_n X 1 rfl (gD D_X11_lot_0 32 rfl) rfl ?_
        obtain ⟨a73, rfl, hw⟩ := hw
        obtain ⟨h74, hw⟩ := hw
        refine v_aald X 0 4 rfl (by decide) h74 (gD D_X11_lot_0 33 rfl) (fun o75 eo75 => ?_)
        replace hw := hw o75 eo75
        refine v_iload_n X 2 rfl (gD D_X11_lot_0 34 rfl) rfl ?_
        obtain ⟨a76, rfl, hw⟩ := hw
        refine v_callIv X (As := [.int x70, va_rf (some a76), .int x2]) (rest := [va_rf (some a66)]) (nA := 3) 0 0 k62 n63 (fun ht => c_X5_init htr (ht.sub [3, 0] rfl) hw) (Or.inl rfl) lk_c_X5_init lk_n_RX5 lk_mRX11_150 lk_i_X5_init rfl (by decide +kernel) rfl rfl (by simp [rf_cat, ct_i]) (by decide) (by decide) rfl rfl (gD D_X11_lot_0 35 rfl) (fun s78 hq _ _ => ?_)
        replace hw := hq
        clear hq
        refine v_astore_n X [(3, va_rf (some a66)), (0, va_rf (some a0)), (1, .int x1), (2, .int x2)] (gD D_X11_lot_0 36 rfl) rfl (by decide) rfl ?_
        refine v_iconst X 0 (gD D_X11_lot_0 37 rfl) (by decide) ?_
        refine v_istore X [(4, .int 0), (3, va_rf (some a66)), (0, va_rf (some a0)), (1, .int x1), (2, .int x2)] (gD D_X11_lot_0 38 rfl) (by decide) rfl ?_
        obtain ⟨f111, hw⟩ := hw
        exact v_sub [5, 3] [2, 4, 1, 0] rfl rfl (t_X11_lot_79 X hr hin htr hex  f111 a0 x2 a66 0 s78 k62 n63 hw)
      · replace hw := hw.2 c61
        exact v_throw X hex 3 (by decide +kernel) lk_xRX11_100 lk_xi_3 lk_xaRX11_102 lk_xgRX11_100_102 (gD D_X11_lot_0 21 rfl) (gD D_X11_lot_0 22 rfl) (gD D_X11_lot_0 23 rfl) (gD D_X11_lot_0 24 rfl) (by decide) hw
    · replace hw := hw.2 c56
      exact v_throw X hex 2 (by decide +kernel) lk_xRX11_90 lk_xi_2 lk_xaRX11_92 lk_xgRX11_90_92 (gD D_X11_lot_0 12 rfl) (gD D_X11_lot_0 13 rfl) (gD D_X11_lot_0 14 rfl) (gD D_X11_lot_0 15 rfl) (by decide) hw
  · replace hw := hw.2 c53
    exact v_throw X hex 1 (by decide +kernel) lk_xRX11_83 lk_xi_1 lk_xaRX11_85 lk_xgRX11_83_85 (gD D_X11_lot_0 3 rfl) (gD D_X11_lot_0 4 rfl) (gD D_X11_lot_0 5 rfl) (gD D_X11_lot_0 6 rfl) (by decide) hw
set_option maxRecDepth 100000 in
set_option maxHeartbeats 4000000 in
theorem c_X11_makeTask {l : Launch} {G : GX} (htr : l.stackTraces = false) {k n : Nat} {σ : St} {a0 : Nat} {x1 : Int32} {a2 : Nat} {x3 : Int32} {Q : Option Nat → St → Prop} (ht : tvOk σ [(some a0, 12), (some a2, 3)]) (hw : w_X11_makeTask k n a0 x1 a2 x3 σ Q) : MR l G 1 σ yX11_makeTask cX11_makeTask 5 (some (.object RX10)) 6 k n [va_rf (some a0), .int x1, va_rf (some a2), .int x3] 11 Q := by
  unfold w_X11_makeTask at hw
  refine m_start RX11 (by decide) htr ht (Nat.le_of_ble_eq_true rfl) rfl (lv := [(0, va_rf (some a0)), (1, .int x1), (2, va_rf (some a2)), (3, .int x3)]) (d := 1) (fun p e s m args below meth c X hr hin => ?_)
  obtain ⟨k51, n52, h53, h54, hw⟩ := hw
  refine v_new X RX10 TX10 7 11 10 (by decide) rfl gin10 tyX10 tyX10_ok lk_kRX11_290 lk_tX10 lk_n_RX10 dfl_X10 k51 n52 h53 h54 (gD D_X11_makeTask_0 0 rfl) (fun a55 s56 ha55 es56 => ?_)
  replace hw := hw a55 s56 ha55 es56
  refine v_dup X (gD D_X11_makeTask_0 1 rfl) (rf_cat _) ?_
  refine v_aload_n X 0 rfl (gD D_X11_makeTask_0 2 rfl) rfl ?_
  refine v_getR X RX11 TX11 19 12 11 (by decide) rfl gin11 8 1108 RX11 (Or.inl rfl) 1 30 rfl rfl rfl (by decide) lk_fRX11_46 (gD D_X11_makeTask_0 3 rfl) (fun o57 eo57 => ?_)
  replace hw := hw o57 eo57
  obtain ⟨a58, rfl, hw⟩ := hw
  refine v_callVi X (As := []) (rest := [va_rf (some a55), va_rf (some a55)]) (nA := 0) 0 0 k51 n52 (fun ht => c_Jx4a65c_size_8abf5 htr (ht.sub [0] rfl) hw) (Or.inl rfl) 0 (κ := 30) rfl (by decide) (rfl : gCl[13]? = some (RJx4a65c, TJx4a65c, 3)) lk_vRX11_145 (by decide +kernel) rfl rfl (by simp [rf_cat, ct_i]) (by decide) (by decide) rfl rfl (gD D_X11_makeTask_0 4 rfl) (fun x59 s60 hq _ _ => ?_)
  replace hw := hq
  clear hq
  refine v_iload_n X 1 rfl (gD D_X11_makeTask_0 5 rfl) rfl ?_
  refine v_aload_n X 2 rfl (gD D_X11_makeTask_0 6 rfl) rfl ?_
  refine v_iload_n X 3 rfl (gD D_X11_makeTask_0 7 rfl) rfl ?_
  refine v_callIv X (As := [.int x59, .int x1, va_rf (some a2), .int x3]) (rest := [va_rf (some a55)]) (nA := 4) 0 0 k51 n52 (fun ht => c_X10_init htr (ht.sub [1, 3] rfl) hw) (Or.inl rfl) lk_c_X10_init lk_n_RX10 lk_mRX11_470 lk_i_X10_init rfl (by decide +kernel) rfl rfl (by simp [rf_cat, ct_i]) (by decide) (by decide) rfl rfl (gD D_X11_makeTask_0 8 rfl) (fun s62 hq _ _ => ?_)
  replace hw := hq
  clear hq
  refine v_astore X [(4, va_rf (some a55)), (0, va_rf (some a0)), (1, .int x1), (2, va_rf (some a2)), (3, .int x3)] (gD D_X11_makeTask_0 9 rfl) (by decide) rfl ?_
  refine v_aload_n X 1 rfl (gD D_X11_makeTask_0 10 rfl) rfl ?_
  refine v_getR X RX11 TX11 19 12 11 (by decide) rfl gin11 8 1108 RX11 (Or.inl rfl) 2 30 rfl rfl rfl (by decide) lk_fRX11_46 (gD D_X11_makeTask_0 11 rfl) (fun o63 eo63 => ?_)
  replace hw := hw o63 eo63
  refine v_aload X 0 rfl (gD D_X11_makeTask_0 12 rfl) ?_
  obtain ⟨a64, rfl, hw⟩ := hw
  obtain ⟨k67, n68, k69, n70, h71, h72, hw⟩ := hw
  refine v_callVi X (As := [va_rf (some a55)]) (rest := []) (nA := 1) k67 n68 k69 n70 (fun ht => c_Jx4a65c_add_9ea2d htr (by decide : isE 11 = true) (ht.sub [0, 2] rfl) hw) (Or.inl rfl) 0 (κ := 30) rfl (by decide) (rfl : gCl[13]? = some (RJx4a65c, TJx4a65c, 3)) lk_vRX11_164 (by decide +kernel) rfl rfl (by decide) (by decide) (by decide) h71 h72 (gD D_X11_makeTask_0 13 rfl) (fun x65 s66 hq _ _ => ?_)
  replace hw := hq
  clear hq
  refine v_pop X (gD D_X11_makeTask_0 14 rfl) rfl ?_
  refine v_aload_n X 3 rfl (gD D_X11_makeTask_0 15 rfl) rfl ?_
  refine v_aload X 0 rfl (gD D_X11_makeTask_0 16 rfl) ?_
  refine v_putR X RX2 TX2 6 3 2 (by decide) rfl gin2 5 205 tyX2 tyX2_ok nmX2 RX2 (Or.inl rfl) 4 rfl (fun b hb => ⟨2, by rw [← hb]; rfl⟩) rfl (by decide) (Or.inl rfl) lk_fRX11_418 rfl rfl rfl (gD D_X11_makeTask_0 17 rfl) (fun s73 es73 => ?_)
  replace hw := hw s73 es73
  refine v_iload_n X 2 rfl (gD D_X11_makeTask_0 18 rfl) rfl ?_
  refine v_iconst X 2 (gD D_X11_makeTask_0 19 rfl) (by decide) ?_
  refine v_icmp_eq X 65 (gD D_X11_makeTask_0 20 rfl) (by decide) (fun c74 => ?_) (fun c74 => ?_)
  · replace hw := hw.1 c74
    refine v_aload X 0 rfl (gD D_X11_makeTask_0 32 rfl) ?_
    exact v_aret X hr (Or.inl ⟨_, rfl⟩) (Or.inr (Or.inr ⟨2, rfl⟩)) hw (gD D_X11_makeTask_0 33 rfl)
  · replace hw := hw.2 c74
    refine v_aload_n X 1 rfl (gD D_X11_makeTask_0 21 rfl) rfl ?_
    refine v_getR X RX11 TX11 19 12 11 (by decide) rfl gin11 9 1109 RX11 (Or.inl rfl) 3 1 rfl rfl rfl (by decide) lk_fRX11_52 (gD D_X11_makeTask_0 22 rfl) (fun o75 eo75 => ?_)
    replace hw := hw o75 eo75
    obtain ⟨a76, rfl, hw⟩ := hw
    refine v_getR X RX0 TX0 8 1 0 (by decide) rfl gin0 4 4 RX0 (Or.inl rfl) 0 2 rfl rfl rfl (by decide) lk_fRX11_379 (gD D_X11_makeTask_0 23 rfl) (fun o77 eo77 => ?_)
    replace hw := hw o77 eo77
    refine v_iload_n X 4 rfl (gD D_X11_makeTask_0 24 rfl) rfl ?_
    refine v_aload_n X 3 rfl (gD D_X11_makeTask_0 25 rfl) rfl ?_
    refine v_getR X RX2 TX2 6 3 2 (by decide) rfl gin2 3 203 RX2 (Or.inl rfl) 6 6 rfl rfl rfl (by decide) lk_fRX11_410 (gD D_X11_makeTask_0 26 rfl) (fun o78 eo78 => ?_)
    replace hw := hw o78 eo78
    obtain ⟨a79, rfl, hw⟩ := hw
    refine v_getR X RX5 TX5 4 6 5 (by decide) rfl gin5 1 501 RX5 (Or.inl rfl) 0 4 rfl rfl rfl (by decide) lk_fRX11_368 (gD D_X11_makeTask_0 27 rfl) (fun o80 eo80 => ?_)
    replace hw := hw o80 eo80
    obtain ⟨a81, rfl, hw⟩ := hw
    refine v_getI X RX3 TX3 6 4 3 (by decide) rfl gin3 0 300 RX3 (Or.inl rfl) 0 rfl rfl (by decide) lk_fRX11_378 (gD D_X11_makeTask_0 28 rfl) ?_
    refine v_aload_n X 3 rfl (gD D_X11_makeTask_0 29 rfl) rfl ?_
    refine v_getI X RX2 TX2 6 3 2 (by decide) rfl gin2 4 204 RX2 (Or.inl rfl) 8 rfl rfl (by decide) lk_fRX11_271 (gD D_X11_makeTask_0 30 rfl) ?_
    obtain ⟨a82, rfl, hw⟩ := hw
    refine v_callVv X (As := [.int x3, .int (sI s73 300 a81), .int (sI s73 204 a2)]) (rest := []) (nA := 3) 0 0 k69 n70 (fun ht => c_X1_add htr (ht.sub [2] rfl) hw) (Or.inl rfl) 2 (κ := 2) rfl (by decide) (rfl : gCl[1]? = some (RX1, TX1, 2)) lk_vRX11_202 (by decide +kernel) rfl rfl (by decide) (by decide) (by decide) rfl rfl (gD D_X11_makeTask_0 31 rfl) (fun s84 hq _ _ => ?_)
    replace hw := hq
    clear hq
    refine v_aload X 0 rfl (gD D_X11_makeTask_0 32 rfl) ?_
    exact v_aret X hr (Or.inl ⟨_, rfl⟩) (Or.inr (Or.inr ⟨6, rfl⟩)) hw (gD D_X11_makeTask_0 33 rfl)
set_option maxRecDepth 100000 in
set_option maxHeartbeats 4000000 in
theorem c_X11_notice {l : Launch} {G : GX} (htr : l.stackTraces = false) {k n : Nat} {σ : St} {a0 : Nat} {x1 : Int32} {x2 : Int32} {Q : Int32 → St → Prop} {Y : Nat → St → Prop} (ht : tvOk σ [(some a0, 12)]) (hw : w_X11_notice k n a0 x1 x2 σ Q Y) : MIX l G 1 σ yX11_notice cX11_notice 3 (some .int) 6 k n [va_rf (some a0), .int x1, .int x2] Q Y := by
  unfold w_X11_notice at hw
  refine m_startX RX11 (by decide) htr ht (Nat.le_of_ble_eq_true rfl) rfl (lv := [(0, va_rf (some a0)), (1, .int x1), (2, .int x2)]) (d := 1) (fun p e s m args below meth c X hr hin hex => ?_)
  refine v_iload_n X 1 rfl (gD D_X11_notice_0 0 rfl) rfl ?_
  refine v_callSi X (As := [.int x1]) (rest := []) (nA := 1) 0 0 k n (fun ht => c_X11_isItem htr (ht.sub [] rfl) hw) (Or.inl rfl) lk_sRX11_110 (by decide +kernel) rfl rfl (by decide) (by decide) (by decide) rfl rfl (gD D_X11_notice_0 1 rfl) (fun x51 s52 hq _ _ => ?_)
  replace hw := hq
  clear hq
  refine v_if_ne X 15 (gD D_X11_notice_0 2 rfl) (by decide) (fun c53 => ?_) (fun c53 => ?_)
  · replace hw := hw.1 c53
    refine v_iload_n X 2 rfl (gD D_X11_notice_0 7 rfl) rfl ?_
    refine v_iconst X 1 (gD D_X11_notice_0 8 rfl) (by decide) ?_
    refine v_bipush X 99 (gD D_X11_notice_0 9 rfl) (by decide) ?_
    refine v_callSi X (As := [.int x2, .int 1, .int 99]) (rest := []) (nA := 3) 0 0 k n (fun ht => c_X11_isWithin htr (ht.sub [] rfl) hw) (Or.inl rfl) lk_sRX11_86 (by decide +kernel) rfl rfl (by decide) (by decide) (by decide) rfl rfl (gD D_X11_notice_0 10 rfl) (fun x54 s55 hq _ _ => ?_)
    replace hw := hq
    clear hq
    refine v_if_ne X 33 (gD D_X11_notice_0 11 rfl) (by decide) (fun c56 => ?_) (fun c56 => ?_)
    · replace hw := hw.1 c56
      refine v_aload_n X 0 rfl (gD D_X11_notice_0 16 rfl) rfl ?_
      refine v_getR X RX11 TX11 19 12 11 (by decide) rfl gin11 5 1105 RX11 (Or.inl rfl) 0 30 rfl rfl rfl (by decide) lk_fRX11_37 (gD D_X11_notice_0 17 rfl) (fun o57 eo57 => ?_)
      replace hw := hw o57 eo57
      obtain ⟨a58, rfl, hw⟩ := hw
      refine v_callVi X (As := []) (rest := []) (nA := 0) 0 0 k n (fun ht => c_Jx4a65c_size_8abf5 htr (ht.sub [0] rfl) hw) (Or.inl rfl) 0 (κ := 30) rfl (by decide) (rfl : gCl[13]? = some (RJx4a65c, TJx4a65c, 3)) lk_vRX11_145 (by decide +kernel) rfl rfl (by decide) (by decide) (by decide) rfl rfl (gD D_X11_notice_0 18 rfl) (fun x59 s60 hq _ _ => ?_)
      replace hw := hq
      clear hq
      refine v_bipush X 8 (gD D_X11_notice_0 19 rfl) (by decide) ?_
      refine v_icmp_lt X 53 (gD D_X11_notice_0 20 rfl) (by decide) (fun c61 => ?_) (fun c61 => ?_)
      · replace hw := hw.1 c61
        refine v_aload_n X 0 rfl (gD D_X11_notice_0 25 rfl) rfl ?_
        refine v_getR X RX11 TX11 19 12 11 (by decide) rfl gin11 5 1105 RX11 (Or.inl rfl) 1 30 rfl rfl rfl (by decide) lk_fRX11_37 (gD D_X11_notice_0 26 rfl) (fun o62 eo62 => ?_)
        replace hw := hw o62 eo62
        obtain ⟨k63, n64, h65, h66, hw⟩ := hw
        refine v_new X RX6 TX6 3 7 6 (by decide) rfl gin6 tyX6 tyX6_ok lk_kRX11_190 lk_tX6 lk_n_RX6 dfl_X6 k63 n64 h65 h66 (gD D_X11_notice_0 27 rfl) (fun a67 s68 ha67 es68 => ?_)
        replace hw := hw a67 s68 ha67 es68
        refine v_dup X (gD D_X11_notice_0 28 rfl) (rf_cat _) ?_
        refine v_aload_n X 0 rfl (gD D_X11_notice_0 29 rfl) rfl ?_
        refine v_getR X RX11 TX11 19 12 11 (by decide) rfl gin11 1 1101 RX11 (Or.inl rfl) 3 25 rfl rfl rfl (by decide) lk_fRX11_17 (gD D_X11_notice_0 30 rfl) (fun o69 eo69 => ?_)
        replace hw := hw o69 eo69
        refine v_iload_n X 1 rfl (gD D_X11_notice_0 31 rfl) rfl ?_
        obtain ⟨a70, rfl, hw⟩ := hw
        obtain ⟨h71, hw⟩ := hw
        refine v_aald X 0 4 rfl (by decide) h71 (gD D_X11_notice_0 32 rfl) (fun o72 eo72 => ?_)
        replace hw := hw o72 eo72
        refine v_iload_n X 2 rfl (gD D_X11_notice_0 33 rfl) rfl ?_
        obtain ⟨a73, rfl, hw⟩ := hw
        refine v_callIv X (As := [va_rf (some a73), .int x2]) (rest := [va_rf (some a67), va_rf o62]) (nA := 2) 0 0 k63 n64 (fun ht => c_X6_init htr (ht.sub [2, 0] rfl) hw) (Or.inl rfl) lk_c_X6_init lk_n_RX6 lk_mRX11_192 lk_i_X6_init rfl (by decide +kernel) rfl rfl (by simp [rf_cat, ct_i]) (by decide) (by decide) rfl rfl (gD D_X11_notice_0 34 rfl) (fun s75 hq _ _ => ?_)
        replace hw := hq
        clear hq
        obtain ⟨a76, rfl, hw⟩ := hw
        obtain ⟨k79, n80, k81, n82, h83, h84, hw⟩ := hw
        refine v_callVi X (As := [va_rf (some a67)]) (rest := []) (nA := 1) k79 n80 k81 n82 (fun ht => c_Jx4a65c_add_9ea2d htr (by decide : isE 7 = true) (ht.sub [3, 2] rfl) hw) (Or.inl rfl) 3 (κ := 30) rfl (by decide) (rfl : gCl[13]? = some (RJx4a65c, TJx4a65c, 3)) lk_vRX11_164 (by decide +kernel) rfl rfl (by decide) (by decide) (by decide) h83 h84 (gD D_X11_notice_0 35 rfl) (fun x77 s78 hq _ _ => ?_)
        replace hw := hq
        clear hq
        refine v_pop X (gD D_X11_notice_0 36 rfl) rfl ?_
        refine v_aload_n X 0 rfl (gD D_X11_notice_0 37 rfl) rfl ?_
        refine v_getR X RX11 TX11 19 12 11 (by decide) rfl gin11 5 1105 RX11 (Or.inl rfl) 5 30 rfl rfl rfl (by decide) lk_fRX11_37 (gD D_X11_notice_0 38 rfl) (fun o85 eo85 => ?_)
        replace hw := hw o85 eo85
        obtain ⟨a86, rfl, hw⟩ := hw
        refine v_callVi X (As := []) (rest := []) (nA := 0) 0 0 k81 n82 (fun ht => c_Jx4a65c_size_8abf5 htr (ht.sub [0] rfl) hw) (Or.inl rfl) 0 (κ := 30) rfl (by decide) (rfl : gCl[13]? = some (RJx4a65c, TJx4a65c, 3)) lk_vRX11_145 (by decide +kernel) rfl rfl (by decide) (by decide) (by decide) rfl rfl (gD D_X11_notice_0 39 rfl) (fun x87 s88 hq _ _ => ?_)
        replace hw := hq
        clear hq
        refine v_iconst X 1 (gD D_X11_notice_0 40 rfl) (by decide) ?_
        refine v_isub X (gD D_X11_notice_0 41 rfl) ?_
        exact v_X (v_iret X hr hw (gD D_X11_notice_0 42 rfl))
      · replace hw := hw.2 c61
        exact v_throw X hex 3 (by decide +kernel) lk_xRX11_100 lk_xi_3 lk_xaRX11_102 lk_xgRX11_100_102 (gD D_X11_notice_0 21 rfl) (gD D_X11_notice_0 22 rfl) (gD D_X11_notice_0 23 rfl) (gD D_X11_notice_0 24 rfl) (by decide) hw
    · replace hw := hw.2 c56
      exact v_throw X hex 2 (by decide +kernel) lk_xRX11_90 lk_xi_2 lk_xaRX11_92 lk_xgRX11_90_92 (gD D_X11_notice_0 12 rfl) (gD D_X11_notice_0 13 rfl) (gD D_X11_notice_0 14 rfl) (gD D_X11_notice_0 15 rfl) (by decide) hw
  · replace hw := hw.2 c53
    exact v_throw X hex 1 (by decide +kernel) lk_xRX11_83 lk_xi_1 lk_xaRX11_85 lk_xgRX11_83_85 (gD D_X11_notice_0 3 rfl) (gD D_X11_notice_0 4 rfl) (gD D_X11_notice_0 5 rfl) (gD D_X11_notice_0 6 rfl) (by decide) hw
set_option maxRecDepth 100000 in
set_option maxHeartbeats 4000000 in
theorem c_X11_order {l : Launch} {G : GX} (htr : l.stackTraces = false) {k n : Nat} {σ : St} {a0 : Nat} {x1 : Int32} {x2 : Int32} {x3 : Int32} {Q : Int32 → St → Prop} {Y : Nat → St → Prop} (ht : tvOk σ [(some a0, 12)]) (hw : w_X11_order k n a0 x1 x2 x3 σ Q Y) : MIX l G 1 σ yX11_order cX11_order 4 (some .int) 6 k n [va_rf (some a0), .int x1, .int x2, .int x3] Q Y := by
  unfold w_X11_order at hw
  refine m_startX RX11 (by decide) htr ht (Nat.le_of_ble_eq_true rfl) rfl (lv := [(0, va_rf (some a0)), (1, .int x1), (2, .int x2), (3, .int x3)]) (d := 1) (fun p e s m args below meth c X hr hin hex => ?_)
  refine v_iload_n X 1 rfl (gD D_X11_order_0 0 rfl) rfl ?_
  refine v_iconst X 0 (gD D_X11_order_0 1 rfl) (by decide) ?_
  refine v_bipush X 9 (gD D_X11_order_0 2 rfl) (by decide) ?_
  refine v_callSi X (As := [.int x1, .int 0, .int 9]) (rest := []) (nA := 3) 0 0 k n (fun ht => c_X11_isWithin htr (ht.sub [] rfl) hw) (Or.inl rfl) lk_sRX11_86 (by decide +kernel) rfl rfl (by decide) (by decide) (by decide) rfl rfl (gD D_X11_order_0 3 rfl) (fun x51 s52 hq _ _ => ?_)
  replace hw := hq
  clear hq
  refine v_if_eq X 21 (gD D_X11_order_0 4 rfl) (by decide) (fun c53 => ?_) (fun c53 => ?_)
  · replace hw := hw.1 c53
    exact v_throw X hex 2 (by decide +kernel) lk_xRX11_90 lk_xi_2 lk_xaRX11_92 lk_xgRX11_90_92 (gD D_X11_order_0 10 rfl) (gD D_X11_order_0 11 rfl) (gD D_X11_order_0 12 rfl) (gD D_X11_order_0 13 rfl) (by decide) hw
  · replace hw := hw.2 c53
    refine v_iload_n X 3 rfl (gD D_X11_order_0 5 rfl) rfl ?_
    refine v_iconst X 0 (gD D_X11_order_0 6 rfl) (by decide) ?_
    refine v_sipush X 999 (gD D_X11_order_0 7 rfl) (by decide) ?_
    refine v_callSi X (As := [.int x3, .int 0, .int 999]) (rest := []) (nA := 3) 0 0 k n (fun ht => c_X11_isWithin htr (ht.sub [] rfl) hw) (Or.inl rfl) lk_sRX11_86 (by decide +kernel) rfl rfl (by decide) (by decide) (by decide) rfl rfl (gD D_X11_order_0 8 rfl) (fun x54 s55 hq _ _ => ?_)
    replace hw := hq
    clear hq
    refine v_if_ne X 29 (gD D_X11_order_0 9 rfl) (by decide) (fun c56 => ?_) (fun c56 => ?_)
    · replace hw := hw.1 c56
      refine v_aload_n X 0 rfl (gD D_X11_order_0 14 rfl) rfl ?_
      refine v_getR X RX11 TX11 19 12 11 (by decide) rfl gin11 6 1106 RX11 (Or.inl rfl) 0 30 rfl rfl rfl (by decide) lk_fRX11_40 (gD D_X11_order_0 15 rfl) (fun o57 eo57 => ?_)
      replace hw := hw o57 eo57
      obtain ⟨a58, rfl, hw⟩ := hw
      refine v_callVi X (As := []) (rest := []) (nA := 0) 0 0 k n (fun ht => c_Jx4a65c_size_8abf5 htr (ht.sub [0] rfl) hw) (Or.inl rfl) 0 (κ := 30) rfl (by decide) (rfl : gCl[13]? = some (RJx4a65c, TJx4a65c, 3)) lk_vRX11_145 (by decide +kernel) rfl rfl (by decide) (by decide) (by decide) rfl rfl (gD D_X11_order_0 16 rfl) (fun x59 s60 hq _ _ => ?_)
      replace hw := hq
      clear hq
      refine v_bipush X 8 (gD D_X11_order_0 17 rfl) (by decide) ?_
      refine v_icmp_lt X 49 (gD D_X11_order_0 18 rfl) (by decide) (fun c61 => ?_) (fun c61 => ?_)
      · replace hw := hw.1 c61
        refine v_aload_n X 0 rfl (gD D_X11_order_0 23 rfl) rfl ?_
        refine v_getR X RX11 TX11 19 12 11 (by decide) rfl gin11 6 1106 RX11 (Or.inl rfl) 1 30 rfl rfl rfl (by decide) lk_fRX11_40 (gD D_X11_order_0 24 rfl) (fun o62 eo62 => ?_)
        replace hw := hw o62 eo62
        obtain ⟨k63, n64, h65, h66, hw⟩ := hw
        refine v_new X RX7 TX7 7 8 7 (by decide) rfl gin7 tyX7 tyX7_ok lk_kRX11_235 lk_tX7 lk_n_RX7 dfl_X7 k63 n64 h65 h66 (gD D_X11_order_0 25 rfl) (fun a67 s68 ha67 es68 => ?_)
        replace hw := hw a67 s68 ha67 es68
        refine v_dup X (gD D_X11_order_0 26 rfl) (rf_cat _) ?_
        refine v_aload_n X 0 rfl (gD D_X11_order_0 27 rfl) rfl ?_
        refine v_getR X RX11 TX11 19 12 11 (by decide) rfl gin11 6 1106 RX11 (Or.inl rfl) 3 30 rfl rfl rfl (by decide) lk_fRX11_40 (gD D_X11_order_0 28 rfl) (fun o69 eo69 => ?_)
        replace hw := hw o69 eo69
        obtain ⟨a70, rfl, hw⟩ := hw
        refine v_callVi X (As := []) (rest := [va_rf (some a67), va_rf (some a67), va_rf o62]) (nA := 0) 0 0 k63 n64 (fun ht => c_Jx4a65c_size_8abf5 htr (ht.sub [0] rfl) hw) (Or.inl rfl) 0 (κ := 30) rfl (by decide) (rfl : gCl[13]? = some (RJx4a65c, TJx4a65c, 3)) lk_vRX11_145 (by decide +kernel) rfl rfl (by simp [rf_cat, ct_i]) (by decide) (by decide) rfl rfl (gD D_X11_order_0 29 rfl) (fun x71 s72 hq _ _ => ?_)
        replace hw := hq
        clear hq
        refine v_iload_n X 1 rfl (gD D_X11_order_0 30 rfl) rfl ?_
        refine v_iload_n X 2 rfl (gD D_X11_order_0 31 rfl) rfl ?_
        refine v_iload_n X 3 rfl (gD D_X11_order_0 32 rfl) rfl ?_
        obtain ⟨k75, n76, k77, n78, h79, h80, hw⟩ := hw
        refine v_callIv X (As := [.int x71, .int x1, .int x2, .int x3]) (rest := [va_rf (some a67), va_rf o62]) (nA := 4) k75 n76 k77 n78 (fun ht => c_X7_init htr (ht.sub [1] rfl) hw) (Or.inl rfl) lk_c_X7_init lk_n_RX7 lk_mRX11_237 lk_i_X7_init rfl (by decide +kernel) rfl rfl (by simp [rf_cat, ct_i]) (by decide) (by decide) h79 h80 (gD D_X11_order_0 33 rfl) (fun s74 hq _ _ => ?_)
        replace hw := hq
        clear hq
        obtain ⟨a81, rfl, hw⟩ := hw
        obtain ⟨k84, n85, k86, n87, h88, h89, hw⟩ := hw
        refine v_callVi X (As := [va_rf (some a67)]) (rest := []) (nA := 1) k84 n85 k86 n87 (fun ht => c_Jx4a65c_add_9ea2d htr (by decide : isE 8 = true) (ht.sub [2, 1] rfl) hw) (Or.inl rfl) 2 (κ := 30) rfl (by decide) (rfl : gCl[13]? = some (RJx4a65c, TJx4a65c, 3)) lk_vRX11_164 (by decide +kernel) rfl rfl (by decide) (by decide) (by decide) h88 h89 (gD D_X11_order_0 34 rfl) (fun x82 s83 hq _ _ => ?_)
        replace hw := hq
        clear hq
        refine v_pop X (gD D_X11_order_0 35 rfl) rfl ?_
        refine v_aload_n X 0 rfl (gD D_X11_order_0 36 rfl) rfl ?_
        refine v_getR X RX11 TX11 19 12 11 (by decide) rfl gin11 6 1106 RX11 (Or.inl rfl) 4 30 rfl rfl rfl (by decide) lk_fRX11_40 (gD D_X11_order_0 37 rfl) (fun o90 eo90 => ?_)
        replace hw := hw o90 eo90
        obtain ⟨a91, rfl, hw⟩ := hw
        refine v_callVi X (As := []) (rest := []) (nA := 0) 0 0 k86 n87 (fun ht => c_Jx4a65c_size_8abf5 htr (ht.sub [0] rfl) hw) (Or.inl rfl) 0 (κ := 30) rfl (by decide) (rfl : gCl[13]? = some (RJx4a65c, TJx4a65c, 3)) lk_vRX11_145 (by decide +kernel) rfl rfl (by decide) (by decide) (by decide) rfl rfl (gD D_X11_order_0 38 rfl) (fun x92 s93 hq _ _ => ?_)
        replace hw := hq
        clear hq
        refine v_iconst X 1 (gD D_X11_order_0 39 rfl) (by decide) ?_
        refine v_isub X (gD D_X11_order_0 40 rfl) ?_
        exact v_X (v_iret X hr hw (gD D_X11_order_0 41 rfl))
      · replace hw := hw.2 c61
        exact v_throw X hex 3 (by decide +kernel) lk_xRX11_100 lk_xi_3 lk_xaRX11_102 lk_xgRX11_100_102 (gD D_X11_order_0 19 rfl) (gD D_X11_order_0 20 rfl) (gD D_X11_order_0 21 rfl) (gD D_X11_order_0 22 rfl) (by decide) hw
    · replace hw := hw.2 c56
      exact v_throw X hex 2 (by decide +kernel) lk_xRX11_90 lk_xi_2 lk_xaRX11_92 lk_xgRX11_90_92 (gD D_X11_order_0 10 rfl) (gD D_X11_order_0 11 rfl) (gD D_X11_order_0 12 rfl) (gD D_X11_order_0 13 rfl) (by decide) hw
set_option maxRecDepth 100000 in
set_option maxHeartbeats 4000000 in
theorem c_X8_take {l : Launch} {G : GX} (htr : l.stackTraces = false) {k n : Nat} {σ : St} {a0 : Nat} {a1 : Nat} {Q : St → Prop} (ht : tvOk σ [(some a0, 9), (some a1, 11)]) (hw : w_X8_take k n a0 a1 σ Q) : MV l G 1 σ yX8_take cX8_take 2 6 k n [va_rf (some a0), va_rf (some a1)] Q := by
  unfold w_X8_take at hw
  refine m_start RX8 (by decide) htr ht (Nat.le_of_ble_eq_true rfl) rfl (lv := [(0, va_rf (some a0)), (1, va_rf (some a1))]) (d := 1) (fun p e s m args below meth c X hr hin => ?_)
  refine v_aload_n X 1 rfl (gD D_X8_take_0 0 rfl) rfl ?_
  refine v_iconst X 1 (gD D_X8_take_0 1 rfl) (by decide) ?_
  refine v_putI X RX10 TX10 7 11 10 (by decide) rfl gin10 5 1005 tyX10 tyX10_ok nmX10 RX10 (Or.inl rfl) 1 rfl .int (int_fit _) rfl (by decide) (Or.inl rfl) lk_fRX8_25 rfl rfl (gD D_X8_take_0 2 rfl) (fun s51 es51 => ?_)
  replace hw := hw s51 es51
  refine v_aload_n X 0 rfl (gD D_X8_take_0 3 rfl) rfl ?_
  refine v_getR X RX8 TX8 4 9 8 (by decide) rfl gin8 0 800 RX8 (Or.inl rfl) 0 30 rfl rfl rfl (by decide) lk_fRX8_12 (gD D_X8_take_0 4 rfl) (fun o52 eo52 => ?_)
  replace hw := hw o52 eo52
  refine v_aload_n X 1 rfl (gD D_X8_take_0 5 rfl) rfl ?_
  obtain ⟨a53, rfl, hw⟩ := hw
  obtain ⟨k56, n57, k58, n59, h60, h61, hw⟩ := hw
  refine v_callVi X (As := [va_rf (some a1)]) (rest := []) (nA := 1) k56 n57 k58 n59 (fun ht => c_Jx4a65c_add_9ea2d htr (by decide : isE 11 = true) (ht.sub [0, 2] rfl) hw) (Or.inl rfl) 0 (κ := 30) rfl (by decide) (rfl : gCl[13]? = some (RJx4a65c, TJx4a65c, 3)) lk_vRX8_30 (by decide +kernel) rfl rfl (by decide) (by decide) (by decide) h60 h61 (gD D_X8_take_0 6 rfl) (fun x54 s55 hq _ _ => ?_)
  replace hw := hq
  clear hq
  refine v_pop X (gD D_X8_take_0 7 rfl) rfl ?_
  exact v_vret X hr hw (gD D_X8_take_0 8 rfl)
set_option maxRecDepth 100000 in
set_option maxHeartbeats 4000000 in
theorem c_X11_give {l : Launch} {G : GX} (htr : l.stackTraces = false) {k n : Nat} {σ : St} {a0 : Nat} {x1 : Int32} {x2 : Int32} {Q : Int32 → St → Prop} {Y : Nat → St → Prop} (ht : tvOk σ [(some a0, 12)]) (hw : w_X11_give k n a0 x1 x2 σ Q Y) : MIX l G 1 σ yX11_give cX11_give 3 (some .int) 7 k n [va_rf (some a0), .int x1, .int x2] Q Y := by
  unfold w_X11_give at hw
  refine m_startX RX11 (by decide) htr ht (Nat.le_of_ble_eq_true rfl) rfl (lv := [(0, va_rf (some a0)), (1, .int x1), (2, .int x2)]) (d := 1) (fun p e s m args below meth c X hr hin hex => ?_)
  refine v_iload_n X 1 rfl (gD D_X11_give_0 0 rfl) rfl ?_
  refine v_callSi X (As := [.int x1]) (rest := []) (nA := 1) 0 0 k n (fun ht => c_X11_isRobot htr (ht.sub [] rfl) hw) (Or.inl rfl) lk_sRX11_273 (by decide +kernel) rfl rfl (by decide) (by decide) (by decide) rfl rfl (gD D_X11_give_0 1 rfl) (fun x51 s52 hq _ _ => ?_)
  replace hw := hq
  clear hq
  refine v_if_eq X 15 (gD D_X11_give_0 2 rfl) (by decide) (fun c53 => ?_) (fun c53 => ?_)
  · replace hw := hw.1 c53
    exact v_throw X hex 1 (by decide +kernel) lk_xRX11_83 lk_xi_1 lk_xaRX11_85 lk_xgRX11_83_85 (gD D_X11_give_0 7 rfl) (gD D_X11_give_0 8 rfl) (gD D_X11_give_0 9 rfl) (gD D_X11_give_0 10 rfl) (by decide) hw
  · replace hw := hw.2 c53
    refine v_aload_n X 0 rfl (gD D_X11_give_0 3 rfl) rfl ?_
    refine v_iload_n X 2 rfl (gD D_X11_give_0 4 rfl) rfl ?_
    refine v_callVi X (As := [.int x2]) (rest := []) (nA := 1) 0 0 k n (fun ht => c_X11_isTask htr (ht.sub [0] rfl) hw) (Or.inl rfl) 0 (κ := 12) rfl (by decide) (rfl : gCl[11]? = some (RX11, TX11, 19)) lk_vRX11_287 (by decide +kernel) rfl rfl (by decide) (by decide) (by decide) rfl rfl (gD D_X11_give_0 5 rfl) (fun x54 s55 hq _ _ => ?_)
    replace hw := hq
    clear hq
    refine v_if_ne X 23 (gD D_X11_give_0 6 rfl) (by decide) (fun c56 => ?_) (fun c56 => ?_)
    · replace hw := hw.1 c56
      refine v_aload_n X 0 rfl (gD D_X11_give_0 11 rfl) rfl ?_
      refine v_getR X RX11 TX11 19 12 11 (by decide) rfl gin11 8 1108 RX11 (Or.inl rfl) 0 30 rfl rfl rfl (by decide) lk_fRX11_46 (gD D_X11_give_0 12 rfl) (fun o57 eo57 => ?_)
      replace hw := hw o57 eo57
      refine v_iload_n X 2 rfl (gD D_X11_give_0 13 rfl) rfl ?_
      obtain ⟨a58, rfl, hw⟩ := hw
      refine v_callVu X (As := [.int x2]) (rest := []) (nA := 1) 0 0 k n (fun ht => c_Jx4a65c_get_915e3 htr (ht.sub [0] rfl) hw) (Or.inl rfl) 0 (κ := 30) rfl (by decide) (rfl : gCl[13]? = some (RJx4a65c, TJx4a65c, 3)) lk_vRX11_153 (by decide +kernel) rfl rfl (by decide) (by decide) (by decide) rfl rfl (gD D_X11_give_0 14 rfl) (fun o59 s60 hq _ _ => ?_)
      replace hw := hq
      clear hq
      obtain ⟨a61, rfl, hw⟩ := hw
      obtain ⟨h62, hw⟩ := hw
      refine v_cast X RX10 TX10 7 11 10 h62 (by decide) rfl lk_kRX11_290 (gD D_X11_give_0 15 rfl) ?_
      refine v_getI X RX10 TX10 7 11 10 (by decide) rfl gin10 5 1005 RX10 (Or.inl rfl) 0 rfl rfl (by decide) lk_fRX11_292 (gD D_X11_give_0 16 rfl) ?_
      refine v_if_eq X 48 (gD D_X11_give_0 17 rfl) (by decide) (fun c63 => ?_) (fun c63 => ?_)
      · replace hw := hw.1 c63
        refine v_aload_n X 0 rfl (gD D_X11_give_0 22 rfl) rfl ?_
        refine v_getR X RX11 TX11 19 12 11 (by decide) rfl gin11 2 1102 RX11 (Or.inl rfl) 2 26 rfl rfl rfl (by decide) lk_fRX11_23 (gD D_X11_give_0 23 rfl) (fun o64 eo64 => ?_)
        replace hw := hw o64 eo64
        refine v_iload_n X 1 rfl (gD D_X11_give_0 24 rfl) rfl ?_
        obtain ⟨a65, rfl, hw⟩ := hw
        obtain ⟨h66, hw⟩ := hw
        refine v_aald X 0 9 rfl (by decide) h66 (gD D_X11_give_0 25 rfl) (fun o67 eo67 => ?_)
        replace hw := hw o67 eo67
        refine v_aload_n X 0 rfl (gD D_X11_give_0 26 rfl) rfl ?_
        refine v_getR X RX11 TX11 19 12 11 (by decide) rfl gin11 8 1108 RX11 (Or.inl rfl) 4 30 rfl rfl rfl (by decide) lk_fRX11_46 (gD D_X11_give_0 27 rfl) (fun o68 eo68 => ?_)
        replace hw := hw o68 eo68
        refine v_iload_n X 2 rfl (gD D_X11_give_0 28 rfl) rfl ?_
        obtain ⟨a69, rfl, hw⟩ := hw
        refine v_callVu X (As := [.int x2]) (rest := [va_rf o67]) (nA := 1) 0 0 k n (fun ht => c_Jx4a65c_get_915e3 htr (ht.sub [0] rfl) hw) (Or.inl rfl) 0 (κ := 30) rfl (by decide) (rfl : gCl[13]? = some (RJx4a65c, TJx4a65c, 3)) lk_vRX11_153 (by decide +kernel) rfl rfl (by simp [rf_cat, ct_i]) (by decide) (by decide) rfl rfl (gD D_X11_give_0 29 rfl) (fun o70 s71 hq _ _ => ?_)
        replace hw := hq
        clear hq
        obtain ⟨a72, rfl, hw⟩ := hw
        obtain ⟨h73, hw⟩ := hw
        refine v_cast X RX10 TX10 7 11 10 h73 (by decide) rfl lk_kRX11_290 (gD D_X11_give_0 30 rfl) ?_
        obtain ⟨a74, rfl, hw⟩ := hw
        obtain ⟨k77, n78, k79, n80, h81, h82, hw⟩ := hw
        refine v_callVv X (As := [va_rf (some a72)]) (rest := []) (nA := 1) k77 n78 k79 n80 (fun ht => c_X8_take htr (ht.sub [2, 0] rfl) hw) (Or.inl rfl) 2 (κ := 9) rfl (by decide) (rfl : gCl[8]? = some (RX8, TX8, 4)) lk_vRX11_283 (by decide +kernel) rfl rfl (by decide) (by decide) (by decide) h81 h82 (gD D_X11_give_0 31 rfl) (fun s76 hq _ _ => ?_)
        replace hw := hq
        clear hq
        refine v_aload_n X 0 rfl (gD D_X11_give_0 32 rfl) rfl ?_
        refine v_getR X RX11 TX11 19 12 11 (by decide) rfl gin11 2 1102 RX11 (Or.inl rfl) 6 26 rfl rfl rfl (by decide) lk_fRX11_23 (gD D_X11_give_0 33 rfl) (fun o83 eo83 => ?_)
        replace hw := hw o83 eo83
        refine v_iload_n X 1 rfl (gD D_X11_give_0 34 rfl) rfl ?_
        obtain ⟨a84, rfl, hw⟩ := hw
        obtain ⟨h85, hw⟩ := hw
        refine v_aald X 0 9 rfl (by decide) h85 (gD D_X11_give_0 35 rfl) (fun o86 eo86 => ?_)
        replace hw := hw o86 eo86
        obtain ⟨a87, rfl, hw⟩ := hw
        refine v_callVi X (As := []) (rest := []) (nA := 0) 0 0 k79 n80 (fun ht => c_X8_tasksInRow htr (ht.sub [0] rfl) hw) (Or.inl rfl) 0 (κ := 9) rfl (by decide) (rfl : gCl[8]? = some (RX8, TX8, 4)) lk_vRX11_295 (by decide +kernel) rfl rfl (by decide) (by decide) (by decide) rfl rfl (gD D_X11_give_0 36 rfl) (fun x88 s89 hq _ _ => ?_)
        replace hw := hq
        clear hq
        exact v_X (v_iret X hr hw (gD D_X11_give_0 37 rfl))
      · replace hw := hw.2 c63
        exact v_throw X hex 3 (by decide +kernel) lk_xRX11_100 lk_xi_3 lk_xaRX11_102 lk_xgRX11_100_102 (gD D_X11_give_0 18 rfl) (gD D_X11_give_0 19 rfl) (gD D_X11_give_0 20 rfl) (gD D_X11_give_0 21 rfl) (by decide) hw
    · replace hw := hw.2 c56
      exact v_throw X hex 1 (by decide +kernel) lk_xRX11_83 lk_xi_1 lk_xaRX11_85 lk_xgRX11_83_85 (gD D_X11_give_0 7 rfl) (gD D_X11_give_0 8 rfl) (gD D_X11_give_0 9 rfl) (gD D_X11_give_0 10 rfl) (by decide) hw
set_option maxRecDepth 100000 in
set_option maxHeartbeats 4000000 in
theorem t_X11_holdInSlots_60 {p : Program} {l : Launch} {e : Env} {s : State} {m : MethodId} {args : Array Value} {below : List Frame} {meth : Method} {c : Code} {G : GX} {σ0 : St} {mc ms : Nat} {Q : St → Prop} (X : VC p l (rmD 7 mc ms) s m args meth c G 7 mc ms 7 RX11 cX11_holdInSlots) (hr : meth.sig.returnType = none) (hin : meth.name = yX11_holdInSlots.name) (htr : l.stackTraces = false) {K3 : Nat → Nat → Nat → Nat → Int32 → Int32 → St → Nat → Nat → Prop} (hK3 : ∀ (a0 : Nat) (a1 : Nat) (a2 : Nat) (a3 : Nat) (x4 : Int32) (x5 : Int32) (σ : St) (k n : Nat), K3 a0 a1 a2 a3 x4 x5 σ k n → V p l e (rmD 7 mc ms) s m args below meth c (MQ below (va_Qv Q (gB G 1 σ0) (GA G)) args s mc ms (GA G)) G 1 σ0 mc ms 7 σ k n [(some a0, 12), (some a1, 8), (some a2, 5), (some a3, 6)] 3 [(0, va_rf (some a0)), (1, va_rf (some a1)), (2, va_rf (some a2)), (3, va_rf (some a3)), (4, .int x4), (5, .int x5)] []) : ∀ (a0 : Nat) (a1 : Nat) (a2 : Nat) (a3 : Nat) (x4 : Int32) (x5 : Int32) (x6 : Int32) (xs0 : Int32) (σ : St) (k n : Nat), w_X11_holdInSlots_60 Q K3 a0 a1 a2 a3 x4 x5 x6 xs0 σ k n → V p l e (rmD 7 mc ms) s m args below meth c (MQ below (va_Qv Q (gB G 1 σ0) (GA G)) args s mc ms (GA G)) G 1 σ0 mc ms 7 σ k n [(some a0, 12), (some a1, 8), (some a2, 5), (some a3, 6)] 60 [(0, va_rf (some a0)), (1, va_rf (some a1)), (2, va_rf (some a2)), (3, va_rf (some a3)), (4, .int x4), (5, .int x5), (6, .int x6)] [.int xs0] := by
  intro a0 a1 a2 a3 x4 x5 x6 xs0 σ k n hw
  unfold w_X11_holdInSlots_60 at hw
  refine v_iload X 4 rfl (gD D_X11_holdInSlots_0 29 rfl) ?_
  refine v_icmp_ne X 82 (gD D_X11_holdInSlots_0 30 rfl) (by decide) (fun c72 => ?_) (fun c72 => ?_)
  · replace hw := hw.1 c72
    refine v_iinc X (x5 + 1) 5 rfl [(5, .int (x5 + 1)), (0, va_rf (some a0)), (1, va_rf (some a1)), (2, va_rf (some a2)), (3, va_rf (some a3)), (4, .int x4), (6, .int x6)] (gD D_X11_holdInSlots_0 41 rfl) rfl (by decide) rfl ?_
    refine v_goto X 3 (gD D_X11_holdInSlots_0 42 rfl) (by decide) ?_
    exact v_sub [0, 1, 2, 3] [1, 2, 3, 4, 5, 0] rfl rfl (hK3 a0 a1 a2 a3 x4 (x5 + 1) σ k n hw)
  · replace hw := hw.2 c72
    refine v_iload X 6 rfl (gD D_X11_holdInSlots_0 31 rfl) ?_
    refine v_if_le X 82 (gD D_X11_holdInSlots_0 32 rfl) (by decide) (fun c73 => ?_) (fun c73 => ?_)
    · replace hw := hw.1 c73
      refine v_iinc X (x5 + 1) 5 rfl [(5, .int (x5 + 1)), (0, va_rf (some a0)), (1, va_rf (some a1)), (2, va_rf (some a2)), (3, va_rf (some a3)), (4, .int x4), (6, .int x6)] (gD D_X11_holdInSlots_0 41 rfl) rfl (by decide) rfl ?_
      refine v_goto X 3 (gD D_X11_holdInSlots_0 42 rfl) (by decide) ?_
      exact v_sub [0, 1, 2, 3] [1, 2, 3, 4, 5, 0] rfl rfl (hK3 a0 a1 a2 a3 x4 (x5 + 1) σ k n hw)
    · replace hw := hw.2 c73
      refine v_aload_n X 0 rfl (gD D_X11_holdInSlots_0 33 rfl) rfl ?_
      refine v_aload_n X 1 rfl (gD D_X11_holdInSlots_0 34 rfl) rfl ?_
      refine v_aload_n X 2 rfl (gD D_X11_holdInSlots_0 35 rfl) rfl ?_
      refine v_iload X 5 rfl (gD D_X11_holdInSlots_0 36 rfl) ?_
      refine v_aload_n X 3 rfl (gD D_X11_holdInSlots_0 37 rfl) rfl ?_
      refine v_iload X 6 rfl (gD D_X11_holdInSlots_0 38 rfl) ?_
      obtain ⟨k76, n77, k78, n79, h80, h81, hw⟩ := hw
      refine v_callVq X (As := [va_rf (some a1), va_rf (some a2), .int x5, va_rf (some a3), .int x6]) (rest := []) (nA := 5) k76 n77 k78 n79 (fun ht => c_X11_hold htr (ht.sub [0, 1, 2, 3] rfl) hw) (Or.inl rfl) (by decide) 0 (κ := 12) rfl (by decide) (rfl : gCl[11]? = some (RX11, TX11, 19)) lk_vRX11_223 (by decide +kernel) rfl rfl (by decide) (by decide) (by decide) h80 h81 (gD D_X11_holdInSlots_0 39 rfl) (fun o74 s75 hq _ _ => ?_)
      replace hw := hq
      clear hq
      refine v_pop X (gD D_X11_holdInSlots_0 40 rfl) (rf_cat _) ?_
      refine v_iinc X (x5 + 1) 5 rfl [(5, .int (x5 + 1)), (0, va_rf (some a0)), (1, va_rf (some a1)), (2, va_rf (some a2)), (3, va_rf (some a3)), (4, .int x4), (6, .int x6)] (gD D_X11_holdInSlots_0 41 rfl) rfl (by decide) rfl ?_
      refine v_goto X 3 (gD D_X11_holdInSlots_0 42 rfl) (by decide) ?_
      exact v_sub [1, 2, 3, 4] [1, 2, 3, 4, 5, 0] rfl rfl (hK3 a0 a1 a2 a3 x4 (x5 + 1) s75 k78 n79 hw)
set_option maxRecDepth 100000 in
set_option maxHeartbeats 4000000 in
theorem t_X11_holdInSlots_3 {p : Program} {l : Launch} {e : Env} {s : State} {m : MethodId} {args : Array Value} {below : List Frame} {meth : Method} {c : Code} {G : GX} {σ0 : St} {mc ms : Nat} {Q : St → Prop} (X : VC p l (rmD 7 mc ms) s m args meth c G 7 mc ms 7 RX11 cX11_holdInSlots) (hr : meth.sig.returnType = none) (hin : meth.name = yX11_holdInSlots.name) (htr : l.stackTraces = false) : ∀ (f : Nat) (a0 : Nat) (a1 : Nat) (a2 : Nat) (a3 : Nat) (x4 : Int32) (x5 : Int32) (σ : St) (k n : Nat), w_X11_holdInSlots_3 Q  f a0 a1 a2 a3 x4 x5 σ k n → V p l e (rmD 7 mc ms) s m args below meth c (MQ below (va_Qv Q (gB G 1 σ0) (GA G)) args s mc ms (GA G)) G 1 σ0 mc ms 7 σ k n [(some a0, 12), (some a1, 8), (some a2, 5), (some a3, 6)] 3 [(0, va_rf (some a0)), (1, va_rf (some a1)), (2, va_rf (some a2)), (3, va_rf (some a3)), (4, .int x4), (5, .int x5)] [] := by
  intro f
  induction f with
  | zero => intro a0 a1 a2 a3 x4 x5 σ k n hw; exact hw.elim
  | succ f ih =>
    intro a0 a1 a2 a3 x4 x5 σ k n hw
    unfold w_X11_holdInSlots_3 at hw
    refine v_iload X 5 rfl (gD D_X11_holdInSlots_0 2 rfl) ?_
    refine v_aload_n X 0 rfl (gD D_X11_holdInSlots_0 3 rfl) rfl ?_
    refine v_getR X RX11 TX11 19 12 11 (by decide) rfl gin11 0 1100 RX11 (Or.inl rfl) 0 24 rfl rfl rfl (by decide) lk_fRX11_11 (gD D_X11_holdInSlots_0 4 rfl) (fun o51 eo51 => ?_)
    replace hw := hw o51 eo51
    obtain ⟨a52, rfl, hw⟩ := hw
    refine v_alen X 0 rfl (by decide) (gD D_X11_holdInSlots_0 5 rfl) ?_
    refine v_icmp_ge X 88 (gD D_X11_holdInSlots_0 6 rfl) (by decide) (fun c53 => ?_) (fun c53 => ?_)
    · replace hw := hw.1 c53
      exact v_vret X hr hw (gD D_X11_holdInSlots_0 43 rfl)
    · replace hw := hw.2 c53
      refine v_aload_n X 2 rfl (gD D_X11_holdInSlots_0 7 rfl) rfl ?_
      refine v_callVi X (As := []) (rest := []) (nA := 0) 0 0 k n (fun ht => c_X4_lacking htr (ht.sub [3] rfl) hw) (Or.inl rfl) 3 (κ := 5) rfl (by decide) (rfl : gCl[4]? = some (RX4, TX4, 4)) lk_vRX11_259 (by decide +kernel) rfl rfl (by decide) (by decide) (by decide) rfl rfl (gD D_X11_holdInSlots_0 8 rfl) (fun x54 s55 hq _ _ => ?_)
      replace hw := hq
      clear hq
      refine v_if_le X 88 (gD D_X11_holdInSlots_0 9 rfl) (by decide) (fun c56 => ?_) (fun c56 => ?_)
      · replace hw := hw.1 c56
        exact v_vret X hr hw (gD D_X11_holdInSlots_0 43 rfl)
      · replace hw := hw.2 c56
        refine v_aload_n X 2 rfl (gD D_X11_holdInSlots_0 10 rfl) rfl ?_
        refine v_callVi X (As := []) (rest := []) (nA := 0) 0 0 k n (fun ht => c_X4_lacking htr (ht.sub [3] rfl) hw) (Or.inl rfl) 3 (κ := 5) rfl (by decide) (rfl : gCl[4]? = some (RX4, TX4, 4)) lk_vRX11_259 (by decide +kernel) rfl rfl (by decide) (by decide) (by decide) rfl rfl (gD D_X11_holdInSlots_0 11 rfl) (fun x57 s58 hq _ _ => ?_)
        replace hw := hq
        clear hq
        refine v_aload_n X 0 rfl (gD D_X11_holdInSlots_0 12 rfl) rfl ?_
        refine v_getR X RX11 TX11 19 12 11 (by decide) rfl gin11 9 1109 RX11 (Or.inl rfl) 1 1 rfl rfl rfl (by decide) lk_fRX11_52 (gD D_X11_holdInSlots_0 13 rfl) (fun o59 eo59 => ?_)
        replace hw := hw o59 eo59
        refine v_iload X 5 rfl (gD D_X11_holdInSlots_0 14 rfl) ?_
        refine v_aload_n X 3 rfl (gD D_X11_holdInSlots_0 15 rfl) rfl ?_
        refine v_getI X RX5 TX5 4 6 5 (by decide) rfl gin5 0 500 RX5 (Or.inl rfl) 5 rfl rfl (by decide) lk_fRX11_167 (gD D_X11_holdInSlots_0 16 rfl) ?_
        obtain ⟨a60, rfl, hw⟩ := hw
        refine v_callVi X (As := [.int x5, .int (sI s58 500 a3)]) (rest := [.int x57]) (nA := 2) 0 0 k n (fun ht => c_X0_freePieces htr (ht.sub [0] rfl) hw) (Or.inl rfl) 0 (κ := 1) rfl (by decide) (rfl : gCl[0]? = some (RX0, TX0, 8)) lk_vRX11_183 (by decide +kernel) rfl rfl (by simp [rf_cat, ct_i]) (by decide) (by decide) rfl rfl (gD D_X11_holdInSlots_0 17 rfl) (fun x61 s62 hq _ _ => ?_)
        replace hw := hq
        clear hq
        refine v_mmin X lk_mRX11_329 lk_s_math_min lk_n_math lk_c_math_min (by decide) (gD D_X11_holdInSlots_0 18 rfl) ?_
        refine v_topi (fun x63 ex63 => ?_)
        replace hw := hw x63 ex63
        refine v_istore X [(6, .int x63), (0, va_rf (some a0)), (1, va_rf (some a1)), (2, va_rf (some a2)), (3, va_rf (some a3)), (4, .int x4), (5, .int x5)] (gD D_X11_holdInSlots_0 19 rfl) (by decide) rfl ?_
        refine v_aload_n X 1 rfl (gD D_X11_holdInSlots_0 20 rfl) rfl ?_
        refine v_getR X RX11 TX11 19 12 11 (by decide) rfl gin11 0 1100 RX11 (Or.inl rfl) 2 24 rfl rfl rfl (by decide) lk_fRX11_11 (gD D_X11_holdInSlots_0 21 rfl) (fun o64 eo64 => ?_)
        replace hw := hw o64 eo64
        refine v_iload X 6 rfl (gD D_X11_holdInSlots_0 22 rfl) ?_
        obtain ⟨a65, rfl, hw⟩ := hw
        obtain ⟨h66, hw⟩ := hw
        refine v_aald X 0 10 rfl (by decide) h66 (gD D_X11_holdInSlots_0 23 rfl) (fun o67 eo67 => ?_)
        replace hw := hw o67 eo67
        obtain ⟨a68, rfl, hw⟩ := hw
        refine v_getR X RX9 TX9 5 10 9 (by decide) rfl gin9 2 902 RX9 (Or.inl rfl) 0 4 rfl rfl rfl (by decide) lk_fRX11_93 (gD D_X11_holdInSlots_0 24 rfl) (fun o69 eo69 => ?_)
        replace hw := hw o69 eo69
        refine v_ifnull X 59 (gD D_X11_holdInSlots_0 25 rfl) (by decide) (fun c70 => ?_) (fun a71 c70 => ?_)
        · replace hw := hw.1 c70
          subst c70
          refine v_iconst X 0 (gD D_X11_holdInSlots_0 28 rfl) (by decide) ?_
          exact v_sub [5, 6, 7, 8] [1, 2, 3, 4, 5, 6, 0] rfl rfl (t_X11_holdInSlots_60 X hr hin htr ih a0 a1 a2 a3 x4 x5 x63 0 s62 k n hw)
        · replace hw := hw.2 a71 c70
          subst c70
          refine v_iconst X 1 (gD D_X11_holdInSlots_0 26 rfl) (by decide) ?_
          refine v_goto X 60 (gD D_X11_holdInSlots_0 27 rfl) (by decide) ?_
          exact v_sub [5, 6, 7, 8] [1, 2, 3, 4, 5, 6, 0] rfl rfl (t_X11_holdInSlots_60 X hr hin htr ih a0 a1 a2 a3 x4 x5 x63 1 s62 k n hw)
set_option maxRecDepth 100000 in
set_option maxHeartbeats 4000000 in
theorem c_X11_holdInSlots {l : Launch} {G : GX} (htr : l.stackTraces = false) {k n : Nat} {σ : St} {a0 : Nat} {a1 : Nat} {a2 : Nat} {a3 : Nat} {x4 : Int32} {Q : St → Prop} (ht : tvOk σ [(some a0, 12), (some a1, 8), (some a2, 5), (some a3, 6)]) (hw : w_X11_holdInSlots k n a0 a1 a2 a3 x4 σ Q) : MV l G 1 σ yX11_holdInSlots cX11_holdInSlots 7 7 k n [va_rf (some a0), va_rf (some a1), va_rf (some a2), va_rf (some a3), .int x4] Q := by
  unfold w_X11_holdInSlots at hw
  refine m_start RX11 (by decide) htr ht (Nat.le_of_ble_eq_true rfl) rfl (lv := [(0, va_rf (some a0)), (1, va_rf (some a1)), (2, va_rf (some a2)), (3, va_rf (some a3)), (4, .int x4)]) (d := 1) (fun p e s m args below meth c X hr hin => ?_)
  refine v_iconst X 0 (gD D_X11_holdInSlots_0 0 rfl) (by decide) ?_
  refine v_istore X [(5, .int 0), (0, va_rf (some a0)), (1, va_rf (some a1)), (2, va_rf (some a2)), (3, va_rf (some a3)), (4, .int x4)] (gD D_X11_holdInSlots_0 1 rfl) (by decide) rfl ?_
  obtain ⟨f82, hw⟩ := hw
  exact v_sub [0, 1, 2, 3] [1, 2, 3, 4, 5, 0] rfl rfl (t_X11_holdInSlots_3 X hr hin htr  f82 a0 a1 a2 a3 x4 0 σ k n hw)
set_option maxRecDepth 100000 in
set_option maxHeartbeats 4000000 in
theorem t_X11_pass_47 {p : Program} {l : Launch} {e : Env} {s : State} {m : MethodId} {args : Array Value} {below : List Frame} {meth : Method} {c : Code} {G : GX} {σ0 : St} {mc ms : Nat} {Q : Int32 → St → Prop} {Y : Nat → St → Prop} (X : VC p l (rmD 7 mc ms) s m args meth c G 7 mc ms 7 RX11 cX11_pass) (hr : meth.sig.returnType = (some .int)) (hin : meth.name = yX11_pass.name) (htr : l.stackTraces = false) (hex : ∀ x ∈ c.exceptionTable.toList, False) {K20 : Nat → Int32 → Int32 → St → Nat → Nat → Prop} (hK20 : ∀ (a0 : Nat) (x1 : Int32) (x2 : Int32) (σ : St) (k n : Nat), K20 a0 x1 x2 σ k n → V p l e (rmD 7 mc ms) s m args below meth c (vx_MQ below (va_Qi Q (gB G 1 σ0) (GA G)) (gX G 1 σ0 Y) args s mc ms (GA G)) G 1 σ0 mc ms 7 σ k n [(some a0, 12)] 20 [(0, va_rf (some a0)), (1, .int x1), (2, .int x2)] []) : ∀ (f : Nat) (a0 : Nat) (x1 : Int32) (x2 : Int32) (o3 : Option Nat) (x4 : Int32) (x5 : Int32) (σ : St) (k n : Nat), w_X11_pass_47 Q Y K20 f a0 x1 x2 o3 x4 x5 σ k n → V p l e (rmD 7 mc ms) s m args below meth c (vx_MQ below (va_Qi Q (gB G 1 σ0) (GA G)) (gX G 1 σ0 Y) args s mc ms (GA G)) G 1 σ0 mc ms 7 σ k n [(some a0, 12), (o3, 26)] 47 [(0, va_rf (some a0)), (1, .int x1), (2, .int x2), (3, va_rf o3), (4, .int x4), (5, .int x5)] [] := by
  intro f
  induction f with
  | zero => intro a0 x1 x2 o3 x4 x5 σ k n hw; exact hw.elim
  | succ f ih =>
    intro a0 x1 x2 o3 x4 x5 σ k n hw
    unfold w_X11_pass_47 at hw
    refine v_iload X 5 rfl (gD D_X11_pass_0 28 rfl) ?_
    refine v_iload X 4 rfl (gD D_X11_pass_0 29 rfl) ?_
    refine v_icmp_ge X 72 (gD D_X11_pass_0 30 rfl) (by decide) (fun c59 => ?_) (fun c59 => ?_)
    · replace hw := hw.1 c59
      refine v_aload_n X 0 rfl (gD D_X11_pass_0 40 rfl) rfl ?_
      refine v_callVv X (As := []) (rest := []) (nA := 0) 0 0 k n (fun ht => c_X11_undoStandstill htr (ht.sub [0] rfl) hw) (Or.inl rfl) 0 (κ := 12) rfl (by decide) (rfl : gCl[11]? = some (RX11, TX11, 19)) lk_vRX11_305 (by decide +kernel) rfl rfl (by decide) (by decide) (by decide) rfl rfl (gD D_X11_pass_0 41 rfl) (fun s61 hq _ _ => ?_)
      replace hw := hq
      clear hq
      refine v_iinc X (x2 + 1) 2 rfl [(2, .int (x2 + 1)), (0, va_rf (some a0)), (1, .int x1), (3, va_rf o3), (4, .int x4), (5, .int x5)] (gD D_X11_pass_0 42 rfl) rfl (by decide) rfl ?_
      refine v_goto X 20 (gD D_X11_pass_0 43 rfl) (by decide) ?_
      exact v_sub [0] [1, 2, 0] rfl rfl (hK20 a0 x1 (x2 + 1) s61 k n hw)
    · replace hw := hw.2 c59
      refine v_aload_n X 3 rfl (gD D_X11_pass_0 31 rfl) rfl ?_
      refine v_iload X 5 rfl (gD D_X11_pass_0 32 rfl) ?_
      obtain ⟨a62, rfl, hw⟩ := hw
      obtain ⟨h63, hw⟩ := hw
      refine v_aald X 1 9 rfl (by decide) h63 (gD D_X11_pass_0 33 rfl) (fun o64 eo64 => ?_)
      replace hw := hw o64 eo64
      refine v_astore X [(6, va_rf o64), (0, va_rf (some a0)), (1, .int x1), (2, .int x2), (3, va_rf (some a62)), (4, .int x4), (5, .int x5)] (gD D_X11_pass_0 34 rfl) (by decide) rfl ?_
      refine v_aload_n X 1 rfl (gD D_X11_pass_0 35 rfl) rfl ?_
      refine v_aload X 0 rfl (gD D_X11_pass_0 36 rfl) ?_
      obtain ⟨a65, rfl, hw⟩ := hw
      obtain ⟨k68, n69, k70, n71, h72, h73, hw⟩ := hw
      refine v_callVv X (As := [va_rf (some a65)]) (rest := []) (nA := 1) k68 n69 k70 n71 (fun ht => c_X11_act htr (ht.sub [1, 0] rfl) hw) (Or.inl rfl) 1 (κ := 12) rfl (by decide) (rfl : gCl[11]? = some (RX11, TX11, 19)) lk_vRX11_301 (by decide +kernel) rfl rfl (by decide) (by decide) (by decide) h72 h73 (gD D_X11_pass_0 37 rfl) (fun s67 hq _ _ => ?_)
      replace hw := hq
      clear hq
      refine v_iinc X (x5 + 1) 6 rfl [(5, .int (x5 + 1)), (6, va_rf (some a65)), (0, va_rf (some a0)), (1, .int x1), (2, .int x2), (3, va_rf (some a62)), (4, .int x4)] (gD D_X11_pass_0 38 rfl) rfl (by decide) rfl ?_
      refine v_goto X 47 (gD D_X11_pass_0 39 rfl) (by decide) ?_
      exact v_sub [1, 2] [2, 3, 4, 5, 6, 0] rfl rfl (ih a0 x1 x2 (some a62) x4 (x5 + 1) s67 k70 n71 hw)
set_option maxRecDepth 100000 in
set_option maxHeartbeats 4000000 in
theorem t_X11_pass_20 {p : Program} {l : Launch} {e : Env} {s : State} {m : MethodId} {args : Array Value} {below : List Frame} {meth : Method} {c : Code} {G : GX} {σ0 : St} {mc ms : Nat} {Q : Int32 → St → Prop} {Y : Nat → St → Prop} (X : VC p l (rmD 7 mc ms) s m args meth c G 7 mc ms 7 RX11 cX11_pass) (hr : meth.sig.returnType = (some .int)) (hin : meth.name = yX11_pass.name) (htr : l.stackTraces = false) (hex : ∀ x ∈ c.exceptionTable.toList, False) : ∀ (f : Nat) (a0 : Nat) (x1 : Int32) (x2 : Int32) (σ : St) (k n : Nat), w_X11_pass_20 Q Y  f a0 x1 x2 σ k n → V p l e (rmD 7 mc ms) s m args below meth c (vx_MQ below (va_Qi Q (gB G 1 σ0) (GA G)) (gX G 1 σ0 Y) args s mc ms (GA G)) G 1 σ0 mc ms 7 σ k n [(some a0, 12)] 20 [(0, va_rf (some a0)), (1, .int x1), (2, .int x2)] [] := by
  intro f
  induction f with
  | zero => intro a0 x1 x2 σ k n hw; exact hw.elim
  | succ f ih =>
    intro a0 x1 x2 σ k n hw
    unfold w_X11_pass_20 at hw
    refine v_iload_n X 2 rfl (gD D_X11_pass_0 11 rfl) rfl ?_
    refine v_iload_n X 1 rfl (gD D_X11_pass_0 12 rfl) rfl ?_
    refine v_icmp_ge X 82 (gD D_X11_pass_0 13 rfl) (by decide) (fun c54 => ?_) (fun c54 => ?_)
    · replace hw := hw.1 c54
      refine v_aload_n X 0 rfl (gD D_X11_pass_0 44 rfl) rfl ?_
      refine v_getI X RX11 TX11 19 12 11 (by decide) rfl gin11 16 1116 RX11 (Or.inl rfl) 0 rfl rfl (by decide) lk_fRX11_298 (gD D_X11_pass_0 45 rfl) ?_
      exact v_X (v_iret X hr hw (gD D_X11_pass_0 46 rfl))
    · replace hw := hw.2 c54
      refine v_aload_n X 0 rfl (gD D_X11_pass_0 14 rfl) rfl ?_
      refine v_dup X (gD D_X11_pass_0 15 rfl) (rf_cat _) ?_
      refine v_getI X RX11 TX11 19 12 11 (by decide) rfl gin11 16 1116 RX11 (Or.inl rfl) 0 rfl rfl (by decide) lk_fRX11_298 (gD D_X11_pass_0 16 rfl) ?_
      refine v_iconst X 1 (gD D_X11_pass_0 17 rfl) (by decide) ?_
      refine v_iadd X (gD D_X11_pass_0 18 rfl) ?_
      refine v_putI X RX11 TX11 19 12 11 (by decide) rfl gin11 16 1116 tyX11 tyX11_ok nmX11 RX11 (Or.inl rfl) 0 rfl .int (int_fit _) rfl (by decide) (Or.inl rfl) lk_fRX11_298 rfl rfl (gD D_X11_pass_0 19 rfl) (fun s55 es55 => ?_)
      replace hw := hw s55 es55
      refine v_aload_n X 0 rfl (gD D_X11_pass_0 20 rfl) rfl ?_
      refine v_getR X RX11 TX11 19 12 11 (by decide) rfl gin11 2 1102 RX11 (Or.inl rfl) 0 26 rfl rfl rfl (by decide) lk_fRX11_23 (gD D_X11_pass_0 21 rfl) (fun o56 eo56 => ?_)
      replace hw := hw o56 eo56
      refine v_astore_n X [(3, va_rf o56), (0, va_rf (some a0)), (1, .int x1), (2, .int x2)] (gD D_X11_pass_0 22 rfl) rfl (by decide) rfl ?_
      refine v_aload_n X 0 rfl (gD D_X11_pass_0 23 rfl) rfl ?_
      obtain ⟨a57, rfl, hw⟩ := hw
      refine v_alen X 0 rfl (by decide) (gD D_X11_pass_0 24 rfl) ?_
      refine v_topi (fun x58 ex58 => ?_)
      replace hw := hw x58 ex58
      refine v_istore X [(4, .int x58), (3, va_rf (some a57)), (0, va_rf (some a0)), (1, .int x1), (2, .int x2)] (gD D_X11_pass_0 25 rfl) (by decide) rfl ?_
      refine v_iconst X 0 (gD D_X11_pass_0 26 rfl) (by decide) ?_
      refine v_istore X [(5, .int 0), (4, .int x58), (3, va_rf (some a57)), (0, va_rf (some a0)), (1, .int x1), (2, .int x2)] (gD D_X11_pass_0 27 rfl) (by decide) rfl ?_
      obtain ⟨f74, hw⟩ := hw
      exact v_sub [1, 0] [3, 4, 5, 2, 1, 0] rfl rfl (t_X11_pass_47 X hr hin htr hex ih f74 a0 x1 x2 (some a57) x58 0 s55 k n hw)
set_option maxRecDepth 100000 in
set_option maxHeartbeats 4000000 in
theorem c_X11_pass {l : Launch} {G : GX} (htr : l.stackTraces = false) {k n : Nat} {σ : St} {a0 : Nat} {x1 : Int32} {Q : Int32 → St → Prop} {Y : Nat → St → Prop} (ht : tvOk σ [(some a0, 12)]) (hw : w_X11_pass k n a0 x1 σ Q Y) : MIX l G 1 σ yX11_pass cX11_pass 7 (some .int) 7 k n [va_rf (some a0), .int x1] Q Y := by
  unfold w_X11_pass at hw
  refine m_startX RX11 (by decide) htr ht (Nat.le_of_ble_eq_true rfl) rfl (lv := [(0, va_rf (some a0)), (1, .int x1)]) (d := 1) (fun p e s m args below meth c X hr hin hex => ?_)
  refine v_iload_n X 1 rfl (gD D_X11_pass_0 0 rfl) rfl ?_
  refine v_iconst X 1 (gD D_X11_pass_0 1 rfl) (by decide) ?_
  refine v_bipush X 50 (gD D_X11_pass_0 2 rfl) (by decide) ?_
  refine v_callSi X (As := [.int x1, .int 1, .int 50]) (rest := []) (nA := 3) 0 0 k n (fun ht => c_X11_isWithin htr (ht.sub [] rfl) hw) (Or.inl rfl) lk_sRX11_86 (by decide +kernel) rfl rfl (by decide) (by decide) (by decide) rfl rfl (gD D_X11_pass_0 3 rfl) (fun x51 s52 hq _ _ => ?_)
  replace hw := hq
  clear hq
  refine v_if_ne X 18 (gD D_X11_pass_0 4 rfl) (by decide) (fun c53 => ?_) (fun c53 => ?_)
  · replace hw := hw.1 c53
    refine v_iconst X 0 (gD D_X11_pass_0 9 rfl) (by decide) ?_
    refine v_istore_n X [(2, .int 0), (0, va_rf (some a0)), (1, .int x1)] (gD D_X11_pass_0 10 rfl) rfl (by decide) rfl ?_
    obtain ⟨f75, hw⟩ := hw
    exact v_sub [0] [1, 2, 0] rfl rfl (t_X11_pass_20 X hr hin htr hex  f75 a0 x1 0 s52 k n hw)
  · replace hw := hw.2 c53
    exact v_throw X hex 2 (by decide +kernel) lk_xRX11_90 lk_xi_2 lk_xaRX11_92 lk_xgRX11_90_92 (gD D_X11_pass_0 5 rfl) (gD D_X11_pass_0 6 rfl) (gD D_X11_pass_0 7 rfl) (gD D_X11_pass_0 8 rfl) (by decide) hw
set_option maxRecDepth 100000 in
set_option maxHeartbeats 4000000 in
theorem c_X11_putAway {l : Launch} {G : GX} (htr : l.stackTraces = false) {k n : Nat} {σ : St} {a0 : Nat} {x1 : Int32} {x2 : Int32} {Q : Int32 → St → Prop} {Y : Nat → St → Prop} (ht : tvOk σ [(some a0, 12)]) (hw : w_X11_putAway k n a0 x1 x2 σ Q Y) : MIX l G 1 σ yX11_putAway cX11_putAway 5 (some .int) 7 k n [va_rf (some a0), .int x1, .int x2] Q Y := by
  unfold w_X11_putAway at hw
  refine m_startX RX11 (by decide) htr ht (Nat.le_of_ble_eq_true rfl) rfl (lv := [(0, va_rf (some a0)), (1, .int x1), (2, .int x2)]) (d := 1) (fun p e s m args below meth c X hr hin hex => ?_)
  refine v_aload_n X 0 rfl (gD D_X11_putAway_0 0 rfl) rfl ?_
  refine v_iload_n X 1 rfl (gD D_X11_putAway_0 1 rfl) rfl ?_
  refine v_callVi X (As := [.int x1]) (rest := []) (nA := 1) 0 0 k n (fun ht => c_X11_isLot htr (ht.sub [0] rfl) hw) (Or.inl rfl) 0 (κ := 12) rfl (by decide) (rfl : gCl[11]? = some (RX11, TX11, 19)) lk_vRX11_170 (by decide +kernel) rfl rfl (by decide) (by decide) (by decide) rfl rfl (gD D_X11_putAway_0 2 rfl) (fun x51 s52 hq _ _ => ?_)
  replace hw := hq
  clear hq
  refine v_if_ne X 16 (gD D_X11_putAway_0 3 rfl) (by decide) (fun c53 => ?_) (fun c53 => ?_)
  · replace hw := hw.1 c53
    refine v_iload_n X 2 rfl (gD D_X11_putAway_0 8 rfl) rfl ?_
    refine v_iconst X 1 (gD D_X11_putAway_0 9 rfl) (by decide) ?_
    refine v_bipush X 99 (gD D_X11_putAway_0 10 rfl) (by decide) ?_
    refine v_callSi X (As := [.int x2, .int 1, .int 99]) (rest := []) (nA := 3) 0 0 k n (fun ht => c_X11_isWithin htr (ht.sub [] rfl) hw) (Or.inl rfl) lk_sRX11_86 (by decide +kernel) rfl rfl (by decide) (by decide) (by decide) rfl rfl (gD D_X11_putAway_0 11 rfl) (fun x54 s55 hq _ _ => ?_)
    replace hw := hq
    clear hq
    refine v_if_ne X 34 (gD D_X11_putAway_0 12 rfl) (by decide) (fun c56 => ?_) (fun c56 => ?_)
    · replace hw := hw.1 c56
      refine v_aload_n X 0 rfl (gD D_X11_putAway_0 17 rfl) rfl ?_
      refine v_getR X RX11 TX11 19 12 11 (by decide) rfl gin11 9 1109 RX11 (Or.inl rfl) 0 1 rfl rfl rfl (by decide) lk_fRX11_52 (gD D_X11_putAway_0 18 rfl) (fun o57 eo57 => ?_)
      replace hw := hw o57 eo57
      refine v_bipush X 18 (gD D_X11_putAway_0 19 rfl) (by decide) ?_
      refine v_iload_n X 1 rfl (gD D_X11_putAway_0 20 rfl) rfl ?_
      obtain ⟨a58, rfl, hw⟩ := hw
      refine v_callVi X (As := [.int 18, .int x1]) (rest := []) (nA := 2) 0 0 k n (fun ht => c_X0_freePieces htr (ht.sub [0] rfl) hw) (Or.inl rfl) 0 (κ := 1) rfl (by decide) (rfl : gCl[0]? = some (RX0, TX0, 8)) lk_vRX11_183 (by decide +kernel) rfl rfl (by decide) (by decide) (by decide) rfl rfl (gD D_X11_putAway_0 21 rfl) (fun x59 s60 hq _ _ => ?_)
      replace hw := hq
      clear hq
      refine v_iload_n X 2 rfl (gD D_X11_putAway_0 22 rfl) rfl ?_
      refine v_icmp_lt X 60 (gD D_X11_putAway_0 23 rfl) (by decide) (fun c61 => ?_) (fun c61 => ?_)
      · replace hw := hw.1 c61
        exact v_throw X hex 3 (by decide +kernel) lk_xRX11_100 lk_xi_3 lk_xaRX11_102 lk_xgRX11_100_102 (gD D_X11_putAway_0 29 rfl) (gD D_X11_putAway_0 30 rfl) (gD D_X11_putAway_0 31 rfl) (gD D_X11_putAway_0 32 rfl) (by decide) hw
      · replace hw := hw.2 c61
        refine v_aload_n X 0 rfl (gD D_X11_putAway_0 24 rfl) rfl ?_
        refine v_getR X RX11 TX11 19 12 11 (by decide) rfl gin11 8 1108 RX11 (Or.inl rfl) 1 30 rfl rfl rfl (by decide) lk_fRX11_46 (gD D_X11_putAway_0 25 rfl) (fun o62 eo62 => ?_)
        replace hw := hw o62 eo62
        obtain ⟨a63, rfl, hw⟩ := hw
        refine v_callVi X (As := []) (rest := []) (nA := 0) 0 0 k n (fun ht => c_Jx4a65c_size_8abf5 htr (ht.sub [0] rfl) hw) (Or.inl rfl) 0 (κ := 30) rfl (by decide) (rfl : gCl[13]? = some (RJx4a65c, TJx4a65c, 3)) lk_vRX11_145 (by decide +kernel) rfl rfl (by decide) (by decide) (by decide) rfl rfl (gD D_X11_putAway_0 26 rfl) (fun x64 s65 hq _ _ => ?_)
        replace hw := hq
        clear hq
        refine v_bipush X 60 (gD D_X11_putAway_0 27 rfl) (by decide) ?_
        refine v_icmp_lt X 68 (gD D_X11_putAway_0 28 rfl) (by decide) (fun c66 => ?_) (fun c66 => ?_)
        · replace hw := hw.1 c66
          refine v_aload_n X 0 rfl (gD D_X11_putAway_0 33 rfl) rfl ?_
          refine v_getR X RX11 TX11 19 12 11 (by decide) rfl gin11 3 1103 RX11 (Or.inl rfl) 2 30 rfl rfl rfl (by decide) lk_fRX11_30 (gD D_X11_putAway_0 34 rfl) (fun o67 eo67 => ?_)
          replace hw := hw o67 eo67
          refine v_iload_n X 1 rfl (gD D_X11_putAway_0 35 rfl) rfl ?_
          obtain ⟨a68, rfl, hw⟩ := hw
          refine v_callVu X (As := [.int x1]) (rest := []) (nA := 1) 0 0 k n (fun ht => c_Jx4a65c_get_915e3 htr (ht.sub [0] rfl) hw) (Or.inl rfl) 0 (κ := 30) rfl (by decide) (rfl : gCl[13]? = some (RJx4a65c, TJx4a65c, 3)) lk_vRX11_153 (by decide +kernel) rfl rfl (by decide) (by decide) (by decide) rfl rfl (gD D_X11_putAway_0 36 rfl) (fun o69 s70 hq _ _ => ?_)
          replace hw := hq
          clear hq
          obtain ⟨a71, rfl, hw⟩ := hw
          obtain ⟨h72, hw⟩ := hw
          refine v_cast X RX5 TX5 4 6 5 h72 (by decide) rfl lk_kRX11_148 (gD D_X11_putAway_0 37 rfl) ?_
          refine v_astore_n X [(3, va_rf (some a71)), (0, va_rf (some a0)), (1, .int x1), (2, .int x2)] (gD D_X11_putAway_0 38 rfl) rfl (by decide) rfl ?_
          refine v_aload_n X 1 rfl (gD D_X11_putAway_0 39 rfl) rfl ?_
          refine v_aload_n X 0 rfl (gD D_X11_putAway_0 40 rfl) rfl ?_
          refine v_iload_n X 3 rfl (gD D_X11_putAway_0 41 rfl) rfl ?_
          refine v_callVi X (As := [va_rf (some a71), .int x2]) (rest := []) (nA := 2) 0 0 k n (fun ht => c_X11_slotToPutInto htr (ht.sub [4, 0] rfl) hw) (Or.inl rfl) 4 (κ := 12) rfl (by decide) (rfl : gCl[11]? = some (RX11, TX11, 19)) lk_vRX11_219 (by decide +kernel) rfl rfl (by decide) (by decide) (by decide) rfl rfl (gD D_X11_putAway_0 42 rfl) (fun x73 s74 hq _ _ => ?_)
          replace hw := hq
          clear hq
          refine v_istore X [(4, .int x73), (3, va_rf (some a71)), (0, va_rf (some a0)), (1, .int x1), (2, .int x2)] (gD D_X11_putAway_0 43 rfl) (by decide) rfl ?_
          refine v_iload X 0 rfl (gD D_X11_putAway_0 44 rfl) ?_
          refine v_iconst X (-1) (gD D_X11_putAway_0 45 rfl) (by decide) ?_
          refine v_icmp_eq X 112 (gD D_X11_putAway_0 46 rfl) (by decide) (fun c75 => ?_) (fun c75 => ?_)
          · replace hw := hw.1 c75
            refine v_iload X 0 rfl (gD D_X11_putAway_0 59 rfl) ?_
            exact v_X (v_iret X hr hw (gD D_X11_putAway_0 60 rfl))
          · replace hw := hw.2 c75
            refine v_aload_n X 2 rfl (gD D_X11_putAway_0 47 rfl) rfl ?_
            refine v_iconst X 0 (gD D_X11_putAway_0 48 rfl) (by decide) ?_
            refine v_aload_n X 2 rfl (gD D_X11_putAway_0 49 rfl) rfl ?_
            refine v_null X (gD D_X11_putAway_0 50 rfl) ?_
            refine v_null X (gD D_X11_putAway_0 51 rfl) ?_
            refine v_bipush X 18 (gD D_X11_putAway_0 52 rfl) (by decide) ?_
            refine v_aload_n X 1 rfl (gD D_X11_putAway_0 53 rfl) rfl ?_
            refine v_iload_n X 4 rfl (gD D_X11_putAway_0 54 rfl) rfl ?_
            refine v_nul 8 ?_
            refine v_nul 5 ?_
            obtain ⟨k78, n79, k80, n81, h82, h83, hw⟩ := hw
            refine v_callVq X (As := [va_rf none, va_rf none, .int 18, va_rf (some a71), .int x2]) (rest := [.int 0, va_rf (some a0)]) (nA := 5) k78 n79 k80 n81 (fun ht => c_X11_hold htr (ht.sub [6, 1, 0, 2] rfl) hw) (Or.inl rfl) (by decide) 6 (κ := 12) rfl (by decide) (rfl : gCl[11]? = some (RX11, TX11, 19)) lk_vRX11_223 (by decide +kernel) rfl rfl (by simp [rf_cat, ct_i]) (by decide) (by decide) h82 h83 (gD D_X11_putAway_0 55 rfl) (fun o76 s77 hq _ _ => ?_)
            replace hw := hq
            clear hq
            refine v_iload X 0 rfl (gD D_X11_putAway_0 56 rfl) ?_
            obtain ⟨a84, rfl, hw⟩ := hw
            obtain ⟨k87, n88, k89, n90, h91, h92, hw⟩ := hw
            refine v_callVq X (As := [.int 0, va_rf (some a84), .int x73]) (rest := []) (nA := 3) k87 n88 k89 n90 (fun ht => c_X11_makeTask htr (ht.sub [7, 0] rfl) hw) (Or.inl rfl) (by decide) 7 (κ := 12) rfl (by decide) (rfl : gCl[11]? = some (RX11, TX11, 19)) lk_vRX11_227 (by decide +kernel) rfl rfl (by decide) (by decide) (by decide) h91 h92 (gD D_X11_putAway_0 57 rfl) (fun o85 s86 hq _ _ => ?_)
            replace hw := hq
            clear hq
            refine v_pop X (gD D_X11_putAway_0 58 rfl) (rf_cat _) ?_
            refine v_iload X 0 rfl (gD D_X11_putAway_0 59 rfl) ?_
            exact v_X (v_iret X hr hw (gD D_X11_putAway_0 60 rfl))
        · replace hw := hw.2 c66
          exact v_throw X hex 3 (by decide +kernel) lk_xRX11_100 lk_xi_3 lk_xaRX11_102 lk_xgRX11_100_102 (gD D_X11_putAway_0 29 rfl) (gD D_X11_putAway_0 30 rfl) (gD D_X11_putAway_0 31 rfl) (gD D_X11_putAway_0 32 rfl) (by decide) hw
    · replace hw := hw.2 c56
      exact v_throw X hex 2 (by decide +kernel) lk_xRX11_90 lk_xi_2 lk_xaRX11_92 lk_xgRX11_90_92 (gD D_X11_putAway_0 13 rfl) (gD D_X11_putAway_0 14 rfl) (gD D_X11_putAway_0 15 rfl) (gD D_X11_putAway_0 16 rfl) (by decide) hw
  · replace hw := hw.2 c53
    exact v_throw X hex 1 (by decide +kernel) lk_xRX11_83 lk_xi_1 lk_xaRX11_85 lk_xgRX11_83_85 (gD D_X11_putAway_0 4 rfl) (gD D_X11_putAway_0 5 rfl) (gD D_X11_putAway_0 6 rfl) (gD D_X11_putAway_0 7 rfl) (by decide) hw
set_option maxRecDepth 100000 in
set_option maxHeartbeats 4000000 in
theorem t_X11_refillFace_210 {p : Program} {l : Launch} {e : Env} {s : State} {m : MethodId} {args : Array Value} {below : List Frame} {meth : Method} {c : Code} {G : GX} {σ0 : St} {mc ms : Nat} {Q : Int32 → St → Prop} (X : VC p l (rmD 7 mc ms) s m args meth c G 7 mc ms 10 RX11 cX11_refillFace) (hr : meth.sig.returnType = (some .boolean)) (hin : meth.name = yX11_refillFace.name) (htr : l.stackTraces = false) : ∀ (x9 : Int32) (σ : St) (k n : Nat), w_X11_refillFace_210 Q  x9 σ k n → V p l e (rmD 7 mc ms) s m args below meth c (MQ below (va_Qi Q (gB G 1 σ0) (GA G)) args s mc ms (GA G)) G 1 σ0 mc ms 10 σ k n [] 210 [(9, .int x9)] [] := by
  intro x9 σ k n hw
  unfold w_X11_refillFace_210 at hw
  refine v_iload X 0 rfl (gD D_X11_refillFace_1 5 rfl) ?_
  refine v_if_le X 219 (gD D_X11_refillFace_1 6 rfl) (by decide) (fun c96 => ?_) (fun c96 => ?_)
  · replace hw := hw.1 c96
    refine v_iconst X 0 (gD D_X11_refillFace_1 9 rfl) (by decide) ?_
    exact v_zret X hr (by decide) hw (gD D_X11_refillFace_1 10 rfl)
  · replace hw := hw.2 c96
    refine v_iconst X 1 (gD D_X11_refillFace_1 7 rfl) (by decide) ?_
    refine v_goto X 220 (gD D_X11_refillFace_1 8 rfl) (by decide) ?_
    exact v_zret X hr (by decide) hw (gD D_X11_refillFace_1 10 rfl)
set_option maxRecDepth 100000 in
set_option maxHeartbeats 4000000 in
theorem t_X11_refillFace_125 {p : Program} {l : Launch} {e : Env} {s : State} {m : MethodId} {args : Array Value} {below : List Frame} {meth : Method} {c : Code} {G : GX} {σ0 : St} {mc ms : Nat} {Q : Int32 → St → Prop} (X : VC p l (rmD 7 mc ms) s m args meth c G 7 mc ms 10 RX11 cX11_refillFace) (hr : meth.sig.returnType = (some .boolean)) (hin : meth.name = yX11_refillFace.name) (htr : l.stackTraces = false) {K72 : Nat → Int32 → Nat → Option Nat → Int32 → Int32 → St → Nat → Nat → Prop} (hK72 : ∀ (a0 : Nat) (x1 : Int32) (a2 : Nat) (o3 : Option Nat) (x4 : Int32) (x5 : Int32) (σ : St) (k n : Nat), K72 a0 x1 a2 o3 x4 x5 σ k n → V p l e (rmD 7 mc ms) s m args below meth c (MQ below (va_Qi Q (gB G 1 σ0) (GA G)) args s mc ms (GA G)) G 1 σ0 mc ms 10 σ k n [(some a0, 12), (some a2, 10), (o3, 4)] 72 [(0, va_rf (some a0)), (1, .int x1), (2, va_rf (some a2)), (3, va_rf o3), (4, .int x4), (5, .int x5)] []) : ∀ (a0 : Nat) (x1 : Int32) (a2 : Nat) (o3 : Option Nat) (x4 : Int32) (x5 : Int32) (a6 : Nat) (xs0 : Int32) (σ : St) (k n : Nat), w_X11_refillFace_125 Q K72 a0 x1 a2 o3 x4 x5 a6 xs0 σ k n → V p l e (rmD 7 mc ms) s m args below meth c (MQ below (va_Qi Q (gB G 1 σ0) (GA G)) args s mc ms (GA G)) G 1 σ0 mc ms 10 σ k n [(some a0, 12), (some a2, 10), (o3, 4), (some a6, 6)] 125 [(0, va_rf (some a0)), (1, .int x1), (2, va_rf (some a2)), (3, va_rf o3), (4, .int x4), (5, .int x5), (6, va_rf (some a6))] [.int xs0] := by
  intro a0 x1 a2 o3 x4 x5 a6 xs0 σ k n hw
  unfold w_X11_refillFace_125 at hw
  refine v_istore X [(7, .int xs0), (0, va_rf (some a0)), (1, .int x1), (2, va_rf (some a2)), (3, va_rf o3), (4, .int x4), (5, .int x5), (6, va_rf (some a6))] (gD D_X11_refillFace_0 60 rfl) (by decide) rfl ?_
  refine v_iload X 0 rfl (gD D_X11_refillFace_0 61 rfl) ?_
  refine v_iconst X (-1) (gD D_X11_refillFace_0 62 rfl) (by decide) ?_
  refine v_icmp_eq X 221 (gD D_X11_refillFace_0 63 rfl) (by decide) (fun c83 => ?_) (fun c83 => ?_)
  · replace hw := hw.1 c83
    refine v_iinc X (x5 + 1) 6 rfl [(5, .int (x5 + 1)), (7, .int xs0), (0, va_rf (some a0)), (1, .int x1), (2, va_rf (some a2)), (3, va_rf o3), (4, .int x4), (6, va_rf (some a6))] (gD D_X11_refillFace_1 11 rfl) rfl (by decide) rfl ?_
    refine v_goto X 72 (gD D_X11_refillFace_1 12 rfl) (by decide) ?_
    exact v_sub [0, 1, 2] [2, 3, 4, 5, 6, 0] rfl rfl (hK72 a0 x1 a2 o3 x4 (x5 + 1) σ k n hw)
  · replace hw := hw.2 c83
    refine v_aload_n X 3 rfl (gD D_X11_refillFace_0 64 rfl) rfl ?_
    refine v_getI X RX9 TX9 5 10 9 (by decide) rfl gin9 4 904 RX9 (Or.inl rfl) 1 rfl rfl (by decide) lk_fRX11_117 (gD D_X11_refillFace_0 65 rfl) ?_
    refine v_iload X 5 rfl (gD D_X11_refillFace_0 66 rfl) ?_
    refine v_isub X (gD D_X11_refillFace_0 67 rfl) ?_
    refine v_aload_n X 1 rfl (gD D_X11_refillFace_0 68 rfl) rfl ?_
    refine v_getR X RX11 TX11 19 12 11 (by decide) rfl gin11 9 1109 RX11 (Or.inl rfl) 0 1 rfl rfl rfl (by decide) lk_fRX11_52 (gD D_X11_refillFace_0 69 rfl) (fun o84 eo84 => ?_)
    replace hw := hw o84 eo84
    refine v_iload X 0 rfl (gD D_X11_refillFace_0 70 rfl) ?_
    refine v_aload X 7 rfl (gD D_X11_refillFace_0 71 rfl) ?_
    refine v_getI X RX5 TX5 4 6 5 (by decide) rfl gin5 0 500 RX5 (Or.inl rfl) 4 rfl rfl (by decide) lk_fRX11_167 (gD D_X11_refillFace_0 72 rfl) ?_
    obtain ⟨a85, rfl, hw⟩ := hw
    refine v_callVi X (As := [.int xs0, .int (sI σ 500 a6)]) (rest := [.int ((sI σ 904 a2) - x4)]) (nA := 2) 0 0 k n (fun ht => c_X0_freePieces htr (ht.sub [0] rfl) hw) (Or.inl rfl) 0 (κ := 1) rfl (by decide) (rfl : gCl[0]? = some (RX0, TX0, 8)) lk_vRX11_183 (by decide +kernel) rfl rfl (by simp [rf_cat, ct_i]) (by decide) (by decide) rfl rfl (gD D_X11_refillFace_0 73 rfl) (fun x86 s87 hq _ _ => ?_)
    replace hw := hq
    clear hq
    refine v_mmin X lk_mRX11_329 lk_s_math_min lk_n_math lk_c_math_min (by decide) (gD D_X11_refillFace_0 74 rfl) ?_
    refine v_topi (fun x88 ex88 => ?_)
    replace hw := hw x88 ex88
    refine v_istore X [(8, .int x88), (7, .int xs0), (0, va_rf (some a0)), (1, .int x1), (2, va_rf (some a2)), (3, va_rf o3), (4, .int x4), (5, .int x5), (6, va_rf (some a6))] (gD D_X11_refillFace_0 75 rfl) (by decide) rfl ?_
    refine v_iload X 0 rfl (gD D_X11_refillFace_0 76 rfl) ?_
    refine v_aload_n X 2 rfl (gD D_X11_refillFace_0 77 rfl) rfl ?_
    refine v_iload_n X 3 rfl (gD D_X11_refillFace_0 78 rfl) rfl ?_
    refine v_callVi X (As := [.int x1]) (rest := [.int x88]) (nA := 1) 0 0 k n (fun ht => c_X11_freeRoom htr (ht.sub [1] rfl) hw) (Or.inl rfl) 1 (κ := 12) rfl (by decide) (rfl : gCl[11]? = some (RX11, TX11, 19)) lk_vRX11_186 (by decide +kernel) rfl rfl (by simp [rf_cat, ct_i]) (by decide) (by decide) rfl rfl (gD D_X11_refillFace_0 79 rfl) (fun x89 s90 hq _ _ => ?_)
    replace hw := hq
    clear hq
    refine v_aload_n X 5 rfl (gD D_X11_refillFace_0 80 rfl) rfl ?_
    obtain ⟨a91, rfl, hw⟩ := hw
    refine v_getI X RX3 TX3 6 4 3 (by decide) rfl gin3 2 302 RX3 (Or.inl rfl) 3 rfl rfl (by decide) lk_fRX11_127 (gD D_X11_refillFace_0 81 rfl) ?_
    obtain ⟨h92, hw⟩ := hw
    refine v_idiv X (gD D_X11_refillFace_0 82 rfl) h92 ?_
    refine v_mmin X lk_mRX11_329 lk_s_math_min lk_n_math lk_c_math_min (by decide) (gD D_X11_refillFace_0 83 rfl) ?_
    refine v_aload_n X 5 rfl (gD D_X11_refillFace_0 84 rfl) rfl ?_
    refine v_getI X RX3 TX3 6 4 3 (by decide) rfl gin3 5 305 RX3 (Or.inl rfl) 3 rfl rfl (by decide) lk_fRX11_136 (gD D_X11_refillFace_0 85 rfl) ?_
    obtain ⟨h93, hw⟩ := hw
    refine v_idiv X (gD D_X11_refillFace_0 86 rfl) h93 ?_
    refine v_topi (fun x94 ex94 => ?_)
    replace hw := hw x94 ex94
    refine v_istore X [(9, .int x94), (8, .int x88), (7, .int xs0), (0, va_rf (some a0)), (1, .int x1), (2, va_rf (some a2)), (3, va_rf (some a91)), (4, .int x4), (5, .int x5), (6, va_rf (some a6))] (gD D_X11_refillFace_0 87 rfl) (by decide) rfl ?_
    refine v_iload X 0 rfl (gD D_X11_refillFace_0 88 rfl) ?_
    refine v_if_le X 210 (gD D_X11_refillFace_0 89 rfl) (by decide) (fun c95 => ?_) (fun c95 => ?_)
    · replace hw := hw.1 c95
      exact v_sub [] [0] rfl rfl (t_X11_refillFace_210 X hr hin htr  x94 s90 k n hw)
    · replace hw := hw.2 c95
      refine v_aload_n X 3 rfl (gD D_X11_refillFace_0 90 rfl) rfl ?_
      refine v_iconst X 1 (gD D_X11_refillFace_0 91 rfl) (by decide) ?_
      refine v_aload_n X 3 rfl (gD D_X11_refillFace_0 92 rfl) rfl ?_
      refine v_null X (gD D_X11_refillFace_0 93 rfl) ?_
      refine v_null X (gD D_X11_refillFace_0 94 rfl) ?_
      refine v_iload X 2 rfl (gD D_X11_refillFace_0 95 rfl) ?_
      refine v_aload X 9 rfl (gD D_X11_refillFace_0 96 rfl) ?_
      refine v_iload X 0 rfl (gD D_X11_refillFace_0 97 rfl) ?_
      refine v_aload_n X 6 rfl (gD D_X11_refillFace_0 98 rfl) rfl ?_
      refine v_getI X RX3 TX3 6 4 3 (by decide) rfl gin3 5 305 RX3 (Or.inl rfl) 3 rfl rfl (by decide) lk_fRX11_136 (gD D_X11_refillFace_0 99 rfl) ?_
      refine v_imul X (gD D_X11_refillFace_1 0 rfl) ?_
      refine v_nul 8 ?_
      refine v_nul 5 ?_
      obtain ⟨k99, n100, k101, n102, h103, h104, hw⟩ := hw
      refine v_callVq X (As := [va_rf none, va_rf none, .int xs0, va_rf (some a6), .int (x94 * (sI s90 305 a91))]) (rest := [.int 1, va_rf (some a0)]) (nA := 5) k99 n100 k101 n102 (fun ht => c_X11_hold htr (ht.sub [3, 1, 0, 6] rfl) hw) (Or.inl rfl) (by decide) 3 (κ := 12) rfl (by decide) (rfl : gCl[11]? = some (RX11, TX11, 19)) lk_vRX11_223 (by decide +kernel) rfl rfl (by simp [rf_cat, ct_i]) (by decide) (by decide) h103 h104 (gD D_X11_refillFace_1 1 rfl) (fun o97 s98 hq _ _ => ?_)
      replace hw := hq
      clear hq
      refine v_iload_n X 4 rfl (gD D_X11_refillFace_1 2 rfl) rfl ?_
      obtain ⟨a105, rfl, hw⟩ := hw
      obtain ⟨k108, n109, k110, n111, h112, h113, hw⟩ := hw
      refine v_callVq X (As := [.int 1, va_rf (some a105), .int x1]) (rest := []) (nA := 3) k108 n109 k110 n111 (fun ht => c_X11_makeTask htr (ht.sub [4, 0] rfl) hw) (Or.inl rfl) (by decide) 4 (κ := 12) rfl (by decide) (rfl : gCl[11]? = some (RX11, TX11, 19)) lk_vRX11_227 (by decide +kernel) rfl rfl (by decide) (by decide) (by decide) h112 h113 (gD D_X11_refillFace_1 3 rfl) (fun o106 s107 hq _ _ => ?_)
      replace hw := hq
      clear hq
      refine v_pop X (gD D_X11_refillFace_1 4 rfl) (rf_cat _) ?_
      exact v_sub [] [0] rfl rfl (t_X11_refillFace_210 X hr hin htr  x94 s107 k110 n111 hw)
set_option maxRecDepth 100000 in
set_option maxHeartbeats 4000000 in
theorem t_X11_refillFace_124 {p : Program} {l : Launch} {e : Env} {s : State} {m : MethodId} {args : Array Value} {below : List Frame} {meth : Method} {c : Code} {G : GX} {σ0 : St} {mc ms : Nat} {Q : Int32 → St → Prop} (X : VC p l (rmD 7 mc ms) s m args meth c G 7 mc ms 10 RX11 cX11_refillFace) (hr : meth.sig.returnType = (some .boolean)) (hin : meth.name = yX11_refillFace.name) (htr : l.stackTraces = false) {K72 : Nat → Int32 → Nat → Option Nat → Int32 → Int32 → St → Nat → Nat → Prop} (hK72 : ∀ (a0 : Nat) (x1 : Int32) (a2 : Nat) (o3 : Option Nat) (x4 : Int32) (x5 : Int32) (σ : St) (k n : Nat), K72 a0 x1 a2 o3 x4 x5 σ k n → V p l e (rmD 7 mc ms) s m args below meth c (MQ below (va_Qi Q (gB G 1 σ0) (GA G)) args s mc ms (GA G)) G 1 σ0 mc ms 10 σ k n [(some a0, 12), (some a2, 10), (o3, 4)] 72 [(0, va_rf (some a0)), (1, .int x1), (2, va_rf (some a2)), (3, va_rf o3), (4, .int x4), (5, .int x5)] []) : ∀ (a0 : Nat) (x1 : Int32) (a2 : Nat) (o3 : Option Nat) (x4 : Int32) (x5 : Int32) (a6 : Nat) (σ : St) (k n : Nat), w_X11_refillFace_124 Q K72 a0 x1 a2 o3 x4 x5 a6 σ k n → V p l e (rmD 7 mc ms) s m args below meth c (MQ below (va_Qi Q (gB G 1 σ0) (GA G)) args s mc ms (GA G)) G 1 σ0 mc ms 10 σ k n [(some a0, 12), (some a2, 10), (o3, 4), (some a6, 6)] 124 [(0, va_rf (some a0)), (1, .int x1), (2, va_rf (some a2)), (3, va_rf o3), (4, .int x4), (5, .int x5), (6, va_rf (some a6))] [] := by
  intro a0 x1 a2 o3 x4 x5 a6 σ k n hw
  unfold w_X11_refillFace_124 at hw
  refine v_iconst X (-1) (gD D_X11_refillFace_0 59 rfl) (by decide) ?_
  exact v_sub [0, 1, 2, 3] [0, 1, 2, 3, 4, 5, 6] rfl rfl (t_X11_refillFace_125 X hr hin htr hK72 a0 x1 a2 o3 x4 x5 a6 (-1) σ k n hw)
set_option maxRecDepth 100000 in
set_option maxHeartbeats 4000000 in
theorem t_X11_refillFace_72 {p : Program} {l : Launch} {e : Env} {s : State} {m : MethodId} {args : Array Value} {below : List Frame} {meth : Method} {c : Code} {G : GX} {σ0 : St} {mc ms : Nat} {Q : Int32 → St → Prop} (X : VC p l (rmD 7 mc ms) s m args meth c G 7 mc ms 10 RX11 cX11_refillFace) (hr : meth.sig.returnType = (some .boolean)) (hin : meth.name = yX11_refillFace.name) (htr : l.stackTraces = false) : ∀ (f : Nat) (a0 : Nat) (x1 : Int32) (a2 : Nat) (o3 : Option Nat) (x4 : Int32) (x5 : Int32) (σ : St) (k n : Nat), w_X11_refillFace_72 Q  f a0 x1 a2 o3 x4 x5 σ k n → V p l e (rmD 7 mc ms) s m args below meth c (MQ below (va_Qi Q (gB G 1 σ0) (GA G)) args s mc ms (GA G)) G 1 σ0 mc ms 10 σ k n [(some a0, 12), (some a2, 10), (o3, 4)] 72 [(0, va_rf (some a0)), (1, .int x1), (2, va_rf (some a2)), (3, va_rf o3), (4, .int x4), (5, .int x5)] [] := by
  intro f
  induction f with
  | zero => intro a0 x1 a2 o3 x4 x5 σ k n hw; exact hw.elim
  | succ f ih =>
    intro a0 x1 a2 o3 x4 x5 σ k n hw
    unfold w_X11_refillFace_72 at hw
    refine v_iload X 5 rfl (gD D_X11_refillFace_0 37 rfl) ?_
    refine v_aload_n X 0 rfl (gD D_X11_refillFace_0 38 rfl) rfl ?_
    refine v_getR X RX11 TX11 19 12 11 (by decide) rfl gin11 4 1104 RX11 (Or.inl rfl) 0 30 rfl rfl rfl (by decide) lk_fRX11_34 (gD D_X11_refillFace_0 39 rfl) (fun o70 eo70 => ?_)
    replace hw := hw o70 eo70
    obtain ⟨a71, rfl, hw⟩ := hw
    refine v_callVi X (As := []) (rest := [.int x5]) (nA := 0) 0 0 k n (fun ht => c_Jx4a65c_size_8abf5 htr (ht.sub [0] rfl) hw) (Or.inl rfl) 0 (κ := 30) rfl (by decide) (rfl : gCl[13]? = some (RJx4a65c, TJx4a65c, 3)) lk_vRX11_145 (by decide +kernel) rfl rfl (by simp [rf_cat, ct_i]) (by decide) (by decide) rfl rfl (gD D_X11_refillFace_0 40 rfl) (fun x72 s73 hq _ _ => ?_)
    replace hw := hq
    clear hq
    refine v_icmp_ge X 227 (gD D_X11_refillFace_0 41 rfl) (by decide) (fun c74 => ?_) (fun c74 => ?_)
    · replace hw := hw.1 c74
      refine v_iconst X 0 (gD D_X11_refillFace_1 13 rfl) (by decide) ?_
      exact v_zret X hr (by decide) hw (gD D_X11_refillFace_1 14 rfl)
    · replace hw := hw.2 c74
      refine v_aload_n X 0 rfl (gD D_X11_refillFace_0 42 rfl) rfl ?_
      refine v_getR X RX11 TX11 19 12 11 (by decide) rfl gin11 4 1104 RX11 (Or.inl rfl) 1 30 rfl rfl rfl (by decide) lk_fRX11_34 (gD D_X11_refillFace_0 43 rfl) (fun o75 eo75 => ?_)
      replace hw := hw o75 eo75
      refine v_iload X 5 rfl (gD D_X11_refillFace_0 44 rfl) ?_
      obtain ⟨a76, rfl, hw⟩ := hw
      refine v_callVu X (As := [.int x5]) (rest := []) (nA := 1) 0 0 k n (fun ht => c_Jx4a65c_get_915e3 htr (ht.sub [0] rfl) hw) (Or.inl rfl) 0 (κ := 30) rfl (by decide) (rfl : gCl[13]? = some (RJx4a65c, TJx4a65c, 3)) lk_vRX11_153 (by decide +kernel) rfl rfl (by decide) (by decide) (by decide) rfl rfl (gD D_X11_refillFace_0 45 rfl) (fun o77 s78 hq _ _ => ?_)
      replace hw := hq
      clear hq
      obtain ⟨a79, rfl, hw⟩ := hw
      obtain ⟨h80, hw⟩ := hw
      refine v_cast X RX5 TX5 4 6 5 h80 (by decide) rfl lk_kRX11_148 (gD D_X11_refillFace_0 46 rfl) ?_
      refine v_astore X [(6, va_rf (some a79)), (0, va_rf (some a0)), (1, .int x1), (2, va_rf (some a2)), (3, va_rf o3), (4, .int x4), (5, .int x5)] (gD D_X11_refillFace_0 47 rfl) (by decide) rfl ?_
      refine v_aload X 0 rfl (gD D_X11_refillFace_0 48 rfl) ?_
      refine v_getR X RX5 TX5 4 6 5 (by decide) rfl gin5 1 501 RX5 (Or.inl rfl) 0 4 rfl rfl rfl (by decide) lk_fRX11_368 (gD D_X11_refillFace_0 49 rfl) (fun o81 eo81 => ?_)
      replace hw := hw o81 eo81
      refine v_aload_n X 4 rfl (gD D_X11_refillFace_0 50 rfl) rfl ?_
      refine v_acmp_ne X 124 (gD D_X11_refillFace_0 51 rfl) (by decide) (fun c82 => ?_) (fun c82 => ?_)
      · replace hw := hw.1 c82
        exact v_sub [4, 5, 6, 1] [1, 2, 3, 4, 5, 6, 0] rfl rfl (t_X11_refillFace_124 X hr hin htr ih a0 x1 a2 o3 x4 x5 a79 s78 k n hw)
      · replace hw := hw.2 c82
        refine v_aload X 0 rfl (gD D_X11_refillFace_0 52 rfl) ?_
        refine v_getI X RX5 TX5 4 6 5 (by decide) rfl gin5 3 503 RX5 (Or.inl rfl) 1 rfl rfl (by decide) lk_fRX11_365 (gD D_X11_refillFace_0 53 rfl) ?_
        refine v_if_ne X 124 (gD D_X11_refillFace_0 54 rfl) (by decide) (fun c114 => ?_) (fun c114 => ?_)
        · replace hw := hw.1 c114
          exact v_sub [4, 5, 6, 1] [1, 2, 3, 4, 5, 6, 0] rfl rfl (t_X11_refillFace_124 X hr hin htr ih a0 x1 a2 o3 x4 x5 a79 s78 k n hw)
        · replace hw := hw.2 c114
          refine v_aload_n X 1 rfl (gD D_X11_refillFace_0 55 rfl) rfl ?_
          refine v_aload X 0 rfl (gD D_X11_refillFace_0 56 rfl) ?_
          refine v_callVi X (As := [va_rf (some a79)]) (rest := []) (nA := 1) 0 0 k n (fun ht => c_X11_slotToRefillFrom htr (ht.sub [4, 1] rfl) hw) (Or.inl rfl) 4 (κ := 12) rfl (by decide) (rfl : gCl[11]? = some (RX11, TX11, 19)) lk_vRX11_395 (by decide +kernel) rfl rfl (by decide) (by decide) (by decide) rfl rfl (gD D_X11_refillFace_0 57 rfl) (fun x115 s116 hq _ _ => ?_)
          replace hw := hq
          clear hq
          refine v_goto X 125 (gD D_X11_refillFace_0 58 rfl) (by decide) ?_
          exact v_sub [4, 5, 6, 1] [1, 2, 3, 4, 5, 6, 0] rfl rfl (t_X11_refillFace_125 X hr hin htr ih a0 x1 a2 o3 x4 x5 a79 x115 s116 k n hw)
set_option maxRecDepth 100000 in
set_option maxHeartbeats 4000000 in
theorem c_X11_refillFace {l : Launch} {G : GX} (htr : l.stackTraces = false) {k n : Nat} {σ : St} {a0 : Nat} {x1 : Int32} {a2 : Nat} {Q : Int32 → St → Prop} (ht : tvOk σ [(some a0, 12), (some a2, 10)]) (hw : w_X11_refillFace k n a0 x1 a2 σ Q) : MI l G 1 σ yX11_refillFace cX11_refillFace 10 (some .boolean) 7 k n [va_rf (some a0), .int x1, va_rf (some a2)] Q := by
  unfold w_X11_refillFace at hw
  refine m_start RX11 (by decide) htr ht (Nat.le_of_ble_eq_true rfl) rfl (lv := [(0, va_rf (some a0)), (1, .int x1), (2, va_rf (some a2))]) (d := 1) (fun p e s m args below meth c X hr hin => ?_)
  refine v_aload_n X 2 rfl (gD D_X11_refillFace_0 0 rfl) rfl ?_
  refine v_getR X RX9 TX9 5 10 9 (by decide) rfl gin9 2 902 RX9 (Or.inl rfl) 1 4 rfl rfl rfl (by decide) lk_fRX11_93 (gD D_X11_refillFace_0 1 rfl) (fun o51 eo51 => ?_)
  replace hw := hw o51 eo51
  refine v_astore_n X [(3, va_rf o51), (0, va_rf (some a0)), (1, .int x1), (2, va_rf (some a2))] (gD D_X11_refillFace_0 2 rfl) rfl (by decide) rfl ?_
  refine v_aload_n X 0 rfl (gD D_X11_refillFace_0 3 rfl) rfl ?_
  refine v_ifnull X 23 (gD D_X11_refillFace_0 4 rfl) (by decide) (fun c52 => ?_) (fun a53 c52 => ?_)
  · replace hw := hw.1 c52
    subst c52
    refine v_iconst X 0 (gD D_X11_refillFace_0 11 rfl) (by decide) ?_
    exact v_zret X hr (by decide) hw (gD D_X11_refillFace_0 12 rfl)
  · replace hw := hw.2 a53 c52
    subst c52
    refine v_aload_n X 0 rfl (gD D_X11_refillFace_0 5 rfl) rfl ?_
    refine v_getI X RX3 TX3 6 4 3 (by decide) rfl gin3 2 302 RX3 (Or.inl rfl) 0 rfl rfl (by decide) lk_fRX11_127 (gD D_X11_refillFace_0 6 rfl) ?_
    refine v_if_le X 23 (gD D_X11_refillFace_0 7 rfl) (by decide) (fun c54 => ?_) (fun c54 => ?_)
    · replace hw := hw.1 c54
      refine v_iconst X 0 (gD D_X11_refillFace_0 11 rfl) (by decide) ?_
      exact v_zret X hr (by decide) hw (gD D_X11_refillFace_0 12 rfl)
    · replace hw := hw.2 c54
      refine v_aload_n X 0 rfl (gD D_X11_refillFace_0 8 rfl) rfl ?_
      refine v_getI X RX3 TX3 6 4 3 (by decide) rfl gin3 5 305 RX3 (Or.inl rfl) 0 rfl rfl (by decide) lk_fRX11_136 (gD D_X11_refillFace_0 9 rfl) ?_
      refine v_if_gt X 25 (gD D_X11_refillFace_0 10 rfl) (by decide) (fun c55 => ?_) (fun c55 => ?_)
      · replace hw := hw.1 c55
        refine v_aload_n X 1 rfl (gD D_X11_refillFace_0 13 rfl) rfl ?_
        refine v_getR X RX11 TX11 19 12 11 (by decide) rfl gin11 9 1109 RX11 (Or.inl rfl) 1 1 rfl rfl rfl (by decide) lk_fRX11_52 (gD D_X11_refillFace_0 14 rfl) (fun o56 eo56 => ?_)
        replace hw := hw o56 eo56
        obtain ⟨a57, rfl, hw⟩ := hw
        refine v_getR X RX0 TX0 8 1 0 (by decide) rfl gin0 1 1 RX0 (Or.inl rfl) 0 2 rfl rfl rfl (by decide) lk_fRX11_375 (gD D_X11_refillFace_0 15 rfl) (fun o58 eo58 => ?_)
        replace hw := hw o58 eo58
        refine v_iload_n X 2 rfl (gD D_X11_refillFace_0 16 rfl) rfl ?_
        refine v_aload_n X 0 rfl (gD D_X11_refillFace_0 17 rfl) rfl ?_
        refine v_getI X RX3 TX3 6 4 3 (by decide) rfl gin3 0 300 RX3 (Or.inl rfl) 2 rfl rfl (by decide) lk_fRX11_378 (gD D_X11_refillFace_0 18 rfl) ?_
        obtain ⟨a59, rfl, hw⟩ := hw
        refine v_callVi X (As := [.int x1, .int (sI σ 300 a53)]) (rest := []) (nA := 2) 0 0 k n (fun ht => c_X1_at htr (ht.sub [0] rfl) hw) (Or.inl rfl) 0 (κ := 2) rfl (by decide) (rfl : gCl[1]? = some (RX1, TX1, 2)) lk_vRX11_176 (by decide +kernel) rfl rfl (by decide) (by decide) (by decide) rfl rfl (gD D_X11_refillFace_0 19 rfl) (fun x60 s61 hq _ _ => ?_)
        replace hw := hq
        clear hq
        refine v_aload_n X 1 rfl (gD D_X11_refillFace_0 20 rfl) rfl ?_
        refine v_getR X RX11 TX11 19 12 11 (by decide) rfl gin11 9 1109 RX11 (Or.inl rfl) 3 1 rfl rfl rfl (by decide) lk_fRX11_52 (gD D_X11_refillFace_0 21 rfl) (fun o62 eo62 => ?_)
        replace hw := hw o62 eo62
        obtain ⟨a63, rfl, hw⟩ := hw
        refine v_getR X RX0 TX0 8 1 0 (by decide) rfl gin0 4 4 RX0 (Or.inl rfl) 0 2 rfl rfl rfl (by decide) lk_fRX11_379 (gD D_X11_refillFace_0 22 rfl) (fun o64 eo64 => ?_)
        replace hw := hw o64 eo64
        refine v_iload_n X 2 rfl (gD D_X11_refillFace_0 23 rfl) rfl ?_
        refine v_aload_n X 0 rfl (gD D_X11_refillFace_0 24 rfl) rfl ?_
        refine v_getI X RX3 TX3 6 4 3 (by decide) rfl gin3 0 300 RX3 (Or.inl rfl) 4 rfl rfl (by decide) lk_fRX11_378 (gD D_X11_refillFace_0 25 rfl) ?_
        obtain ⟨a65, rfl, hw⟩ := hw
        refine v_callVi X (As := [.int x1, .int (sI s61 300 a53)]) (rest := [.int x60]) (nA := 2) 0 0 k n (fun ht => c_X1_at htr (ht.sub [0] rfl) hw) (Or.inl rfl) 0 (κ := 2) rfl (by decide) (rfl : gCl[1]? = some (RX1, TX1, 2)) lk_vRX11_176 (by decide +kernel) rfl rfl (by simp [rf_cat, ct_i]) (by decide) (by decide) rfl rfl (gD D_X11_refillFace_0 26 rfl) (fun x66 s67 hq _ _ => ?_)
        replace hw := hq
        clear hq
        refine v_iadd X (gD D_X11_refillFace_0 27 rfl) ?_
        refine v_topi (fun x68 ex68 => ?_)
        replace hw := hw x68 ex68
        refine v_istore X [(4, .int x68), (3, va_rf (some a53)), (0, va_rf (some a0)), (1, .int x1), (2, va_rf (some a2))] (gD D_X11_refillFace_0 28 rfl) (by decide) rfl ?_
        refine v_iload X 0 rfl (gD D_X11_refillFace_0 29 rfl) ?_
        refine v_aload_n X 4 rfl (gD D_X11_refillFace_0 30 rfl) rfl ?_
        refine v_getI X RX9 TX9 5 10 9 (by decide) rfl gin9 3 903 RX9 (Or.inl rfl) 6 rfl rfl (by decide) lk_fRX11_114 (gD D_X11_refillFace_0 31 rfl) ?_
        refine v_icmp_lt X 69 (gD D_X11_refillFace_0 32 rfl) (by decide) (fun c69 => ?_) (fun c69 => ?_)
        · replace hw := hw.1 c69
          refine v_iconst X 0 (gD D_X11_refillFace_0 35 rfl) (by decide) ?_
          refine v_istore X [(5, .int 0), (4, .int x68), (3, va_rf (some a53)), (0, va_rf (some a0)), (1, .int x1), (2, va_rf (some a2))] (gD D_X11_refillFace_0 36 rfl) (by decide) rfl ?_
          obtain ⟨f117, hw⟩ := hw
          exact v_sub [5, 6, 4] [3, 4, 5, 2, 1, 0] rfl rfl (t_X11_refillFace_72 X hr hin htr  f117 a0 x1 a2 (some a53) x68 0 s67 k n hw)
        · replace hw := hw.2 c69
          refine v_iconst X 0 (gD D_X11_refillFace_0 33 rfl) (by decide) ?_
          exact v_zret X hr (by decide) hw (gD D_X11_refillFace_0 34 rfl)
      · replace hw := hw.2 c55
        refine v_iconst X 0 (gD D_X11_refillFace_0 11 rfl) (by decide) ?_
        exact v_zret X hr (by decide) hw (gD D_X11_refillFace_0 12 rfl)
set_option maxRecDepth 100000 in
set_option maxHeartbeats 4000000 in
theorem t_X11_wave_65 {p : Program} {l : Launch} {e : Env} {s : State} {m : MethodId} {args : Array Value} {below : List Frame} {meth : Method} {c : Code} {G : GX} {σ0 : St} {mc ms : Nat} {Q : Int32 → St → Prop} {Y : Nat → St → Prop} (X : VC p l (rmD 7 mc ms) s m args meth c G 7 mc ms 6 RX11 cX11_wave) (hr : meth.sig.returnType = (some .int)) (hin : meth.name = yX11_wave.name) (htr : l.stackTraces = false) (hex : ∀ x ∈ c.exceptionTable.toList, False) : ∀ (f : Nat) (a0 : Nat) (x1 : Int32) (x2 : Int32) (x3 : Int32) (x4 : Int32) (σ : St) (k n : Nat), w_X11_wave_65 Q Y  f a0 x1 x2 x3 x4 σ k n → V p l e (rmD 7 mc ms) s m args below meth c (vx_MQ below (va_Qi Q (gB G 1 σ0) (GA G)) (gX G 1 σ0 Y) args s mc ms (GA G)) G 1 σ0 mc ms 6 σ k n [(some a0, 12)] 65 [(0, va_rf (some a0)), (1, .int x1), (2, .int x2), (3, .int x3), (4, .int x4)] [] := by
  intro f
  induction f with
  | zero => intro a0 x1 x2 x3 x4 σ k n hw; exact hw.elim
  | succ f ih =>
    intro a0 x1 x2 x3 x4 σ k n hw
    unfold w_X11_wave_65 at hw
    refine v_iload X 4 rfl (gD D_X11_wave_0 33 rfl) ?_
    refine v_iload_n X 3 rfl (gD D_X11_wave_0 34 rfl) rfl ?_
    refine v_icmp_ge X 113 (gD D_X11_wave_0 35 rfl) (by decide) (fun c64 => ?_) (fun c64 => ?_)
    · replace hw := hw.1 c64
      refine v_iload_n X 3 rfl (gD D_X11_wave_0 57 rfl) rfl ?_
      exact v_X (v_iret X hr hw (gD D_X11_wave_0 58 rfl))
    · replace hw := hw.2 c64
      refine v_aload_n X 0 rfl (gD D_X11_wave_0 36 rfl) rfl ?_
      refine v_iload_n X 2 rfl (gD D_X11_wave_0 37 rfl) rfl ?_
      refine v_callVq X (As := [.int x2]) (rest := []) (nA := 1) 0 0 k n (fun ht => c_X11_nextForWave htr (ht.sub [0] rfl) hw) (Or.inl rfl) (by decide) 0 (κ := 12) rfl (by decide) (rfl : gCl[11]? = some (RX11, TX11, 19)) lk_vRX11_279 (by decide +kernel) rfl rfl (by decide) (by decide) (by decide) rfl rfl (gD D_X11_wave_0 38 rfl) (fun o65 s66 hq _ _ => ?_)
      replace hw := hq
      clear hq
      refine v_astore X [(5, va_rf o65), (0, va_rf (some a0)), (1, .int x1), (2, .int x2), (3, .int x3), (4, .int x4)] (gD D_X11_wave_0 39 rfl) (by decide) rfl ?_
      refine v_aload X 0 rfl (gD D_X11_wave_0 40 rfl) ?_
      refine v_ifnull X 107 (gD D_X11_wave_0 41 rfl) (by decide) (fun c67 => ?_) (fun a68 c67 => ?_)
      · replace hw := hw.1 c67
        subst c67
        refine v_iinc X (x4 + 1) 5 rfl [(4, .int (x4 + 1)), (5, va_rf none), (0, va_rf (some a0)), (1, .int x1), (2, .int x2), (3, .int x3)] (gD D_X11_wave_0 55 rfl) rfl (by decide) rfl ?_
        refine v_goto X 65 (gD D_X11_wave_0 56 rfl) (by decide) ?_
        exact v_sub [1] [2, 3, 4, 5, 0] rfl rfl (ih a0 x1 x2 x3 (x4 + 1) s66 k n hw)
      · replace hw := hw.2 a68 c67
        subst c67
        refine v_aload_n X 1 rfl (gD D_X11_wave_0 42 rfl) rfl ?_
        refine v_getR X RX11 TX11 19 12 11 (by decide) rfl gin11 2 1102 RX11 (Or.inl rfl) 1 26 rfl rfl rfl (by decide) lk_fRX11_23 (gD D_X11_wave_0 43 rfl) (fun o69 eo69 => ?_)
        replace hw := hw o69 eo69
        refine v_iload_n X 2 rfl (gD D_X11_wave_0 44 rfl) rfl ?_
        obtain ⟨a70, rfl, hw⟩ := hw
        obtain ⟨h71, hw⟩ := hw
        refine v_aald X 0 9 rfl (by decide) h71 (gD D_X11_wave_0 45 rfl) (fun o72 eo72 => ?_)
        replace hw := hw o72 eo72
        refine v_aload_n X 1 rfl (gD D_X11_wave_0 46 rfl) rfl ?_
        refine v_iconst X 2 (gD D_X11_wave_0 47 rfl) (by decide) ?_
        refine v_aload X 0 rfl (gD D_X11_wave_0 48 rfl) ?_
        refine v_bipush X 20 (gD D_X11_wave_0 49 rfl) (by decide) ?_
        refine v_aload X 0 rfl (gD D_X11_wave_0 50 rfl) ?_
        refine v_callVi X (As := []) (rest := [.int 20, va_rf (some a68), .int 2, va_rf (some a0), va_rf o72]) (nA := 0) 0 0 k n (fun ht => c_X2_turn htr (ht.sub [2] rfl) hw) (Or.inl rfl) 2 (κ := 3) rfl (by decide) (rfl : gCl[2]? = some (RX2, TX2, 6)) lk_vRX11_264 (by decide +kernel) rfl rfl (by simp [rf_cat, ct_i]) (by decide) (by decide) rfl rfl (gD D_X11_wave_0 51 rfl) (fun x73 s74 hq _ _ => ?_)
        replace hw := hq
        clear hq
        refine v_iadd X (gD D_X11_wave_0 52 rfl) ?_
        obtain ⟨k77, n78, k79, n80, h81, h82, hw⟩ := hw
        refine v_callVq X (As := [.int 2, va_rf (some a68), .int (20 + x73)]) (rest := [va_rf o72]) (nA := 3) k77 n78 k79 n80 (fun ht => c_X11_makeTask htr (ht.sub [3, 2] rfl) hw) (Or.inl rfl) (by decide) 3 (κ := 12) rfl (by decide) (rfl : gCl[11]? = some (RX11, TX11, 19)) lk_vRX11_227 (by decide +kernel) rfl rfl (by simp [rf_cat, ct_i]) (by decide) (by decide) h81 h82 (gD D_X11_wave_0 53 rfl) (fun o75 s76 hq _ _ => ?_)
        replace hw := hq
        clear hq
        obtain ⟨a83, rfl, hw⟩ := hw
        obtain ⟨a84, rfl, hw⟩ := hw
        obtain ⟨k87, n88, k89, n90, h91, h92, hw⟩ := hw
        refine v_callVv X (As := [va_rf (some a83)]) (rest := []) (nA := 1) k87 n88 k89 n90 (fun ht => c_X8_take htr (ht.sub [1, 0] rfl) hw) (Or.inl rfl) 1 (κ := 9) rfl (by decide) (rfl : gCl[8]? = some (RX8, TX8, 4)) lk_vRX11_283 (by decide +kernel) rfl rfl (by decide) (by decide) (by decide) h91 h92 (gD D_X11_wave_0 54 rfl) (fun s86 hq _ _ => ?_)
        replace hw := hq
        clear hq
        refine v_iinc X (x4 + 1) 5 rfl [(4, .int (x4 + 1)), (5, va_rf (some a68)), (0, va_rf (some a0)), (1, .int x1), (2, .int x2), (3, .int x3)] (gD D_X11_wave_0 55 rfl) rfl (by decide) rfl ?_
        refine v_goto X 65 (gD D_X11_wave_0 56 rfl) (by decide) ?_
        exact v_sub [4] [2, 3, 4, 5, 0] rfl rfl (ih a0 x1 x2 x3 (x4 + 1) s86 k89 n90 hw)
set_option maxRecDepth 100000 in
set_option maxHeartbeats 4000000 in
theorem c_X11_wave {l : Launch} {G : GX} (htr : l.stackTraces = false) {k n : Nat} {σ : St} {a0 : Nat} {x1 : Int32} {x2 : Int32} {Q : Int32 → St → Prop} {Y : Nat → St → Prop} (ht : tvOk σ [(some a0, 12)]) (hw : w_X11_wave k n a0 x1 x2 σ Q Y) : MIX l G 1 σ yX11_wave cX11_wave 6 (some .int) 7 k n [va_rf (some a0), .int x1, .int x2] Q Y := by
  unfold w_X11_wave at hw
  refine m_startX RX11 (by decide) htr ht (Nat.le_of_ble_eq_true rfl) rfl (lv := [(0, va_rf (some a0)), (1, .int x1), (2, .int x2)]) (d := 1) (fun p e s m args below meth c X hr hin hex => ?_)
  refine v_iload_n X 1 rfl (gD D_X11_wave_0 0 rfl) rfl ?_
  refine v_callSi X (As := [.int x1]) (rest := []) (nA := 1) 0 0 k n (fun ht => c_X11_isRobot htr (ht.sub [] rfl) hw) (Or.inl rfl) lk_sRX11_273 (by decide +kernel) rfl rfl (by decide) (by decide) (by decide) rfl rfl (gD D_X11_wave_0 1 rfl) (fun x51 s52 hq _ _ => ?_)
  replace hw := hq
  clear hq
  refine v_if_ne X 15 (gD D_X11_wave_0 2 rfl) (by decide) (fun c53 => ?_) (fun c53 => ?_)
  · replace hw := hw.1 c53
    refine v_iload_n X 2 rfl (gD D_X11_wave_0 7 rfl) rfl ?_
    refine v_iconst X 1 (gD D_X11_wave_0 8 rfl) (by decide) ?_
    refine v_sipush X 255 (gD D_X11_wave_0 9 rfl) (by decide) ?_
    refine v_callSi X (As := [.int x2, .int 1, .int 255]) (rest := []) (nA := 3) 0 0 k n (fun ht => c_X11_isWithin htr (ht.sub [] rfl) hw) (Or.inl rfl) lk_sRX11_86 (by decide +kernel) rfl rfl (by decide) (by decide) (by decide) rfl rfl (gD D_X11_wave_0 10 rfl) (fun x54 s55 hq _ _ => ?_)
    replace hw := hq
    clear hq
    refine v_if_ne X 34 (gD D_X11_wave_0 11 rfl) (by decide) (fun c56 => ?_) (fun c56 => ?_)
    · replace hw := hw.1 c56
      refine v_aload_n X 0 rfl (gD D_X11_wave_0 16 rfl) rfl ?_
      refine v_iload_n X 2 rfl (gD D_X11_wave_0 17 rfl) rfl ?_
      refine v_callVi X (As := [.int x2]) (rest := []) (nA := 1) 0 0 k n (fun ht => c_X11_holdingsForWave htr (ht.sub [0] rfl) hw) (Or.inl rfl) 0 (κ := 12) rfl (by decide) (rfl : gCl[11]? = some (RX11, TX11, 19)) lk_vRX11_276 (by decide +kernel) rfl rfl (by decide) (by decide) (by decide) rfl rfl (gD D_X11_wave_0 18 rfl) (fun x57 s58 hq _ _ => ?_)
      replace hw := hq
      clear hq
      refine v_istore_n X [(3, .int x57), (0, va_rf (some a0)), (1, .int x1), (2, .int x2)] (gD D_X11_wave_0 19 rfl) rfl (by decide) rfl ?_
      refine v_aload_n X 1 rfl (gD D_X11_wave_0 20 rfl) rfl ?_
      refine v_getR X RX11 TX11 19 12 11 (by decide) rfl gin11 8 1108 RX11 (Or.inl rfl) 0 30 rfl rfl rfl (by decide) lk_fRX11_46 (gD D_X11_wave_0 21 rfl) (fun o59 eo59 => ?_)
      replace hw := hw o59 eo59
      obtain ⟨a60, rfl, hw⟩ := hw
      refine v_callVi X (As := []) (rest := []) (nA := 0) 0 0 k n (fun ht => c_Jx4a65c_size_8abf5 htr (ht.sub [0] rfl) hw) (Or.inl rfl) 0 (κ := 30) rfl (by decide) (rfl : gCl[13]? = some (RJx4a65c, TJx4a65c, 3)) lk_vRX11_145 (by decide +kernel) rfl rfl (by decide) (by decide) (by decide) rfl rfl (gD D_X11_wave_0 22 rfl) (fun x61 s62 hq _ _ => ?_)
      replace hw := hq
      clear hq
      refine v_iload_n X 0 rfl (gD D_X11_wave_0 23 rfl) rfl ?_
      refine v_iadd X (gD D_X11_wave_0 24 rfl) ?_
      refine v_bipush X 60 (gD D_X11_wave_0 25 rfl) (by decide) ?_
      refine v_icmp_le X 62 (gD D_X11_wave_0 26 rfl) (by decide) (fun c63 => ?_) (fun c63 => ?_)
      · replace hw := hw.1 c63
        refine v_iconst X 0 (gD D_X11_wave_0 31 rfl) (by decide) ?_
        refine v_istore X [(4, .int 0), (3, .int x57), (0, va_rf (some a0)), (1, .int x1), (2, .int x2)] (gD D_X11_wave_0 32 rfl) (by decide) rfl ?_
        obtain ⟨f93, hw⟩ := hw
        exact v_sub [1] [2, 3, 4, 1, 0] rfl rfl (t_X11_wave_65 X hr hin htr hex  f93 a0 x1 x2 x57 0 s62 k n hw)
      · replace hw := hw.2 c63
        exact v_throw X hex 3 (by decide +kernel) lk_xRX11_100 lk_xi_3 lk_xaRX11_102 lk_xgRX11_100_102 (gD D_X11_wave_0 27 rfl) (gD D_X11_wave_0 28 rfl) (gD D_X11_wave_0 29 rfl) (gD D_X11_wave_0 30 rfl) (by decide) hw
    · replace hw := hw.2 c56
      exact v_throw X hex 2 (by decide +kernel) lk_xRX11_90 lk_xi_2 lk_xaRX11_92 lk_xgRX11_90_92 (gD D_X11_wave_0 12 rfl) (gD D_X11_wave_0 13 rfl) (gD D_X11_wave_0 14 rfl) (gD D_X11_wave_0 15 rfl) (by decide) hw
  · replace hw := hw.2 c53
    exact v_throw X hex 1 (by decide +kernel) lk_xRX11_83 lk_xi_1 lk_xaRX11_85 lk_xgRX11_83_85 (gD D_X11_wave_0 3 rfl) (gD D_X11_wave_0 4 rfl) (gD D_X11_wave_0 5 rfl) (gD D_X11_wave_0 6 rfl) (by decide) hw
set_option maxRecDepth 100000 in
set_option maxHeartbeats 4000000 in
theorem t_X11_allocateLine_8 {p : Program} {l : Launch} {e : Env} {s : State} {m : MethodId} {args : Array Value} {below : List Frame} {meth : Method} {c : Code} {G : GX} {σ0 : St} {mc ms : Nat} {Q : Int32 → St → Prop} (X : VC p l (rmD 8 mc ms) s m args meth c G 8 mc ms 5 RX11 cX11_allocateLine) (hr : meth.sig.returnType = (some .int)) (hin : meth.name = yX11_allocateLine.name) (htr : l.stackTraces = false) : ∀ (f : Nat) (a0 : Nat) (a1 : Nat) (a2 : Nat) (x3 : Int32) (x4 : Int32) (σ : St) (k n : Nat), w_X11_allocateLine_8 Q  f a0 a1 a2 x3 x4 σ k n → V p l e (rmD 8 mc ms) s m args below meth c (MQ below (va_Qi Q (gB G 1 σ0) (GA G)) args s mc ms (GA G)) G 1 σ0 mc ms 5 σ k n [(some a0, 12), (some a1, 8), (some a2, 5)] 8 [(0, va_rf (some a0)), (1, va_rf (some a1)), (2, va_rf (some a2)), (3, .int x3), (4, .int x4)] [] := by
  intro f
  induction f with
  | zero => intro a0 a1 a2 x3 x4 σ k n hw; exact hw.elim
  | succ f ih =>
    intro a0 a1 a2 x3 x4 σ k n hw
    unfold w_X11_allocateLine_8 at hw
    refine v_iload X 4 rfl (gD D_X11_allocateLine_0 5 rfl) ?_
    refine v_aload_n X 0 rfl (gD D_X11_allocateLine_0 6 rfl) rfl ?_
    refine v_getR X RX11 TX11 19 12 11 (by decide) rfl gin11 4 1104 RX11 (Or.inl rfl) 0 30 rfl rfl rfl (by decide) lk_fRX11_34 (gD D_X11_allocateLine_0 7 rfl) (fun o53 eo53 => ?_)
    replace hw := hw o53 eo53
    obtain ⟨a54, rfl, hw⟩ := hw
    refine v_callVi X (As := []) (rest := [.int x4]) (nA := 0) 0 0 k n (fun ht => c_Jx4a65c_size_8abf5 htr (ht.sub [0] rfl) hw) (Or.inl rfl) 0 (κ := 30) rfl (by decide) (rfl : gCl[13]? = some (RJx4a65c, TJx4a65c, 3)) lk_vRX11_145 (by decide +kernel) rfl rfl (by simp [rf_cat, ct_i]) (by decide) (by decide) rfl rfl (gD D_X11_allocateLine_0 8 rfl) (fun x55 s56 hq _ _ => ?_)
    replace hw := hq
    clear hq
    refine v_icmp_ge X 88 (gD D_X11_allocateLine_0 9 rfl) (by decide) (fun c57 => ?_) (fun c57 => ?_)
    · replace hw := hw.1 c57
      refine v_iload_n X 3 rfl (gD D_X11_allocateLine_0 43 rfl) rfl ?_
      refine v_aload_n X 2 rfl (gD D_X11_allocateLine_0 44 rfl) rfl ?_
      refine v_callVi X (As := []) (rest := [.int x3]) (nA := 0) 0 0 k n (fun ht => c_X4_lacking htr (ht.sub [3] rfl) hw) (Or.inl rfl) 3 (κ := 5) rfl (by decide) (rfl : gCl[4]? = some (RX4, TX4, 4)) lk_vRX11_259 (by decide +kernel) rfl rfl (by simp [rf_cat, ct_i]) (by decide) (by decide) rfl rfl (gD D_X11_allocateLine_0 45 rfl) (fun x58 s59 hq _ _ => ?_)
      replace hw := hq
      clear hq
      refine v_isub X (gD D_X11_allocateLine_0 46 rfl) ?_
      exact v_iret X hr hw (gD D_X11_allocateLine_0 47 rfl)
    · replace hw := hw.2 c57
      refine v_aload_n X 0 rfl (gD D_X11_allocateLine_0 10 rfl) rfl ?_
      refine v_aload_n X 1 rfl (gD D_X11_allocateLine_0 11 rfl) rfl ?_
      refine v_aload_n X 2 rfl (gD D_X11_allocateLine_0 12 rfl) rfl ?_
      refine v_getR X RX4 TX4 4 5 4 (by decide) rfl gin4 0 400 RX4 (Or.inl rfl) 3 4 rfl rfl rfl (by decide) lk_fRX11_454 (gD D_X11_allocateLine_0 13 rfl) (fun o60 eo60 => ?_)
      replace hw := hw o60 eo60
      refine v_aload_n X 0 rfl (gD D_X11_allocateLine_0 14 rfl) rfl ?_
      refine v_getR X RX11 TX11 19 12 11 (by decide) rfl gin11 4 1104 RX11 (Or.inl rfl) 2 30 rfl rfl rfl (by decide) lk_fRX11_34 (gD D_X11_allocateLine_0 15 rfl) (fun o61 eo61 => ?_)
      replace hw := hw o61 eo61
      refine v_iload X 4 rfl (gD D_X11_allocateLine_0 16 rfl) ?_
      obtain ⟨a62, rfl, hw⟩ := hw
      refine v_callVu X (As := [.int x4]) (rest := [va_rf o60, va_rf (some a1), va_rf (some a0)]) (nA := 1) 0 0 k n (fun ht => c_Jx4a65c_get_915e3 htr (ht.sub [0] rfl) hw) (Or.inl rfl) 0 (κ := 30) rfl (by decide) (rfl : gCl[13]? = some (RJx4a65c, TJx4a65c, 3)) lk_vRX11_153 (by decide +kernel) rfl rfl (by simp [rf_cat, ct_i]) (by decide) (by decide) rfl rfl (gD D_X11_allocateLine_0 17 rfl) (fun o63 s64 hq _ _ => ?_)
      replace hw := hq
      clear hq
      obtain ⟨a65, rfl, hw⟩ := hw
      obtain ⟨h66, hw⟩ := hw
      refine v_cast X RX5 TX5 4 6 5 h66 (by decide) rfl lk_kRX11_148 (gD D_X11_allocateLine_0 18 rfl) ?_
      obtain ⟨a67, rfl, hw⟩ := hw
      refine v_callVi X (As := [va_rf (some a1), va_rf (some a67), va_rf (some a65)]) (rest := []) (nA := 3) 0 0 k n (fun ht => c_X11_isGoodFor htr (ht.sub [4, 5, 2, 0] rfl) hw) (Or.inl rfl) 4 (κ := 12) rfl (by decide) (rfl : gCl[11]? = some (RX11, TX11, 19)) lk_vRX11_459 (by decide +kernel) rfl rfl (by decide) (by decide) (by decide) rfl rfl (gD D_X11_allocateLine_0 19 rfl) (fun x68 s69 hq _ _ => ?_)
      replace hw := hq
      clear hq
      refine v_if_eq X 82 (gD D_X11_allocateLine_0 20 rfl) (by decide) (fun c70 => ?_) (fun c70 => ?_)
      · replace hw := hw.1 c70
        refine v_iinc X (x4 + 1) 4 rfl [(4, .int (x4 + 1)), (0, va_rf (some a0)), (1, va_rf (some a1)), (2, va_rf (some a2)), (3, .int x3)] (gD D_X11_allocateLine_0 41 rfl) rfl (by decide) rfl ?_
        refine v_goto X 8 (gD D_X11_allocateLine_0 42 rfl) (by decide) ?_
        exact v_sub [4, 5, 6] [1, 2, 3, 4, 0] rfl rfl (ih a0 a1 a2 x3 (x4 + 1) s69 k n hw)
      · replace hw := hw.2 c70
        refine v_aload_n X 0 rfl (gD D_X11_allocateLine_0 21 rfl) rfl ?_
        refine v_aload_n X 1 rfl (gD D_X11_allocateLine_0 22 rfl) rfl ?_
        refine v_aload_n X 2 rfl (gD D_X11_allocateLine_0 23 rfl) rfl ?_
        refine v_aload_n X 0 rfl (gD D_X11_allocateLine_0 24 rfl) rfl ?_
        refine v_getR X RX11 TX11 19 12 11 (by decide) rfl gin11 4 1104 RX11 (Or.inl rfl) 4 30 rfl rfl rfl (by decide) lk_fRX11_34 (gD D_X11_allocateLine_0 25 rfl) (fun o71 eo71 => ?_)
        replace hw := hw o71 eo71
        refine v_iload X 4 rfl (gD D_X11_allocateLine_0 26 rfl) ?_
        obtain ⟨a72, rfl, hw⟩ := hw
        refine v_callVu X (As := [.int x4]) (rest := [va_rf (some a2), va_rf (some a1), va_rf (some a0)]) (nA := 1) 0 0 k n (fun ht => c_Jx4a65c_get_915e3 htr (ht.sub [0] rfl) hw) (Or.inl rfl) 0 (κ := 30) rfl (by decide) (rfl : gCl[13]? = some (RJx4a65c, TJx4a65c, 3)) lk_vRX11_153 (by decide +kernel) rfl rfl (by simp [rf_cat, ct_i]) (by decide) (by decide) rfl rfl (gD D_X11_allocateLine_0 27 rfl) (fun o73 s74 hq _ _ => ?_)
        replace hw := hq
        clear hq
        obtain ⟨a75, rfl, hw⟩ := hw
        obtain ⟨h76, hw⟩ := hw
        refine v_cast X RX5 TX5 4 6 5 h76 (by decide) rfl lk_kRX11_148 (gD D_X11_allocateLine_0 28 rfl) ?_
        refine v_iconst X 1 (gD D_X11_allocateLine_0 29 rfl) (by decide) ?_
        obtain ⟨k79, n80, k81, n82, h83, h84, hw⟩ := hw
        refine v_callVv X (As := [va_rf (some a1), va_rf (some a2), va_rf (some a75), .int 1]) (rest := []) (nA := 4) k79 n80 k81 n82 (fun ht => c_X11_holdInSlots htr (ht.sub [6, 7, 8, 0] rfl) hw) (Or.inl rfl) 6 (κ := 12) rfl (by decide) (rfl : gCl[11]? = some (RX11, TX11, 19)) lk_vRX11_466 (by decide +kernel) rfl rfl (by decide) (by decide) (by decide) h83 h84 (gD D_X11_allocateLine_0 30 rfl) (fun s78 hq _ _ => ?_)
        replace hw := hq
        clear hq
        refine v_aload_n X 0 rfl (gD D_X11_allocateLine_0 31 rfl) rfl ?_
        refine v_aload_n X 1 rfl (gD D_X11_allocateLine_0 32 rfl) rfl ?_
        refine v_aload_n X 2 rfl (gD D_X11_allocateLine_0 33 rfl) rfl ?_
        refine v_aload_n X 0 rfl (gD D_X11_allocateLine_0 34 rfl) rfl ?_
        refine v_getR X RX11 TX11 19 12 11 (by decide) rfl gin11 4 1104 RX11 (Or.inl rfl) 6 30 rfl rfl rfl (by decide) lk_fRX11_34 (gD D_X11_allocateLine_0 35 rfl) (fun o85 eo85 => ?_)
        replace hw := hw o85 eo85
        refine v_iload X 4 rfl (gD D_X11_allocateLine_0 36 rfl) ?_
        obtain ⟨a86, rfl, hw⟩ := hw
        refine v_callVu X (As := [.int x4]) (rest := [va_rf (some a2), va_rf (some a1), va_rf (some a0)]) (nA := 1) 0 0 k81 n82 (fun ht => c_Jx4a65c_get_915e3 htr (ht.sub [0] rfl) hw) (Or.inl rfl) 0 (κ := 30) rfl (by decide) (rfl : gCl[13]? = some (RJx4a65c, TJx4a65c, 3)) lk_vRX11_153 (by decide +kernel) rfl rfl (by simp [rf_cat, ct_i]) (by decide) (by decide) rfl rfl (gD D_X11_allocateLine_0 37 rfl) (fun o87 s88 hq _ _ => ?_)
        replace hw := hq
        clear hq
        obtain ⟨a89, rfl, hw⟩ := hw
        obtain ⟨h90, hw⟩ := hw
        refine v_cast X RX5 TX5 4 6 5 h90 (by decide) rfl lk_kRX11_148 (gD D_X11_allocateLine_0 38 rfl) ?_
        refine v_iconst X 0 (gD D_X11_allocateLine_0 39 rfl) (by decide) ?_
        obtain ⟨k93, n94, k95, n96, h97, h98, hw⟩ := hw
        refine v_callVv X (As := [va_rf (some a1), va_rf (some a2), va_rf (some a89), .int 0]) (rest := []) (nA := 4) k93 n94 k95 n96 (fun ht => c_X11_holdInSlots htr (ht.sub [8, 9, 10, 0] rfl) hw) (Or.inl rfl) 8 (κ := 12) rfl (by decide) (rfl : gCl[11]? = some (RX11, TX11, 19)) lk_vRX11_466 (by decide +kernel) rfl rfl (by decide) (by decide) (by decide) h97 h98 (gD D_X11_allocateLine_0 40 rfl) (fun s92 hq _ _ => ?_)
        replace hw := hq
        clear hq
        refine v_iinc X (x4 + 1) 4 rfl [(4, .int (x4 + 1)), (0, va_rf (some a0)), (1, va_rf (some a1)), (2, va_rf (some a2)), (3, .int x3)] (gD D_X11_allocateLine_0 41 rfl) rfl (by decide) rfl ?_
        refine v_goto X 8 (gD D_X11_allocateLine_0 42 rfl) (by decide) ?_
        exact v_sub [8, 9, 10] [1, 2, 3, 4, 0] rfl rfl (ih a0 a1 a2 x3 (x4 + 1) s92 k95 n96 hw)
set_option maxRecDepth 100000 in
set_option maxHeartbeats 4000000 in
theorem c_X11_allocateLine {l : Launch} {G : GX} (htr : l.stackTraces = false) {k n : Nat} {σ : St} {a0 : Nat} {a1 : Nat} {a2 : Nat} {Q : Int32 → St → Prop} (ht : tvOk σ [(some a0, 12), (some a1, 8), (some a2, 5)]) (hw : w_X11_allocateLine k n a0 a1 a2 σ Q) : MI l G 1 σ yX11_allocateLine cX11_allocateLine 5 (some .int) 8 k n [va_rf (some a0), va_rf (some a1), va_rf (some a2)] Q := by
  unfold w_X11_allocateLine at hw
  refine m_start RX11 (by decide) htr ht (Nat.le_of_ble_eq_true rfl) rfl (lv := [(0, va_rf (some a0)), (1, va_rf (some a1)), (2, va_rf (some a2))]) (d := 1) (fun p e s m args below meth c X hr hin => ?_)
  refine v_aload_n X 2 rfl (gD D_X11_allocateLine_0 0 rfl) rfl ?_
  refine v_callVi X (As := []) (rest := []) (nA := 0) 0 0 k n (fun ht => c_X4_lacking htr (ht.sub [2] rfl) hw) (Or.inl rfl) 2 (κ := 5) rfl (by decide) (rfl : gCl[4]? = some (RX4, TX4, 4)) lk_vRX11_259 (by decide +kernel) rfl rfl (by decide) (by decide) (by decide) rfl rfl (gD D_X11_allocateLine_0 1 rfl) (fun x51 s52 hq _ _ => ?_)
  replace hw := hq
  clear hq
  refine v_istore_n X [(3, .int x51), (0, va_rf (some a0)), (1, va_rf (some a1)), (2, va_rf (some a2))] (gD D_X11_allocateLine_0 2 rfl) rfl (by decide) rfl ?_
  refine v_iconst X 0 (gD D_X11_allocateLine_0 3 rfl) (by decide) ?_
  refine v_istore X [(4, .int 0), (3, .int x51), (0, va_rf (some a0)), (1, va_rf (some a1)), (2, va_rf (some a2))] (gD D_X11_allocateLine_0 4 rfl) (by decide) rfl ?_
  obtain ⟨f99, hw⟩ := hw
  exact v_sub [0, 1, 2] [2, 3, 4, 1, 0] rfl rfl (t_X11_allocateLine_8 X hr hin htr  f99 a0 a1 a2 x51 0 s52 k n hw)
set_option maxRecDepth 100000 in
set_option maxHeartbeats 4000000 in
theorem t_X11_refill_4 {p : Program} {l : Launch} {e : Env} {s : State} {m : MethodId} {args : Array Value} {below : List Frame} {meth : Method} {c : Code} {G : GX} {σ0 : St} {mc ms : Nat} {Q : Int32 → St → Prop} (X : VC p l (rmD 8 mc ms) s m args meth c G 8 mc ms 3 RX11 cX11_refill) (hr : meth.sig.returnType = (some .int)) (hin : meth.name = yX11_refill.name) (htr : l.stackTraces = false) : ∀ (f : Nat) (a0 : Nat) (x1 : Int32) (x2 : Int32) (σ : St) (k n : Nat), w_X11_refill_4 Q  f a0 x1 x2 σ k n → V p l e (rmD 8 mc ms) s m args below meth c (MQ below (va_Qi Q (gB G 1 σ0) (GA G)) args s mc ms (GA G)) G 1 σ0 mc ms 3 σ k n [(some a0, 12)] 4 [(0, va_rf (some a0)), (1, .int x1), (2, .int x2)] [] := by
  intro f
  induction f with
  | zero => intro a0 x1 x2 σ k n hw; exact hw.elim
  | succ f ih =>
    intro a0 x1 x2 σ k n hw
    unfold w_X11_refill_4 at hw
    refine v_iload_n X 2 rfl (gD D_X11_refill_0 4 rfl) rfl ?_
    refine v_aload_n X 0 rfl (gD D_X11_refill_0 5 rfl) rfl ?_
    refine v_getR X RX11 TX11 19 12 11 (by decide) rfl gin11 0 1100 RX11 (Or.inl rfl) 0 24 rfl rfl rfl (by decide) lk_fRX11_11 (gD D_X11_refill_0 6 rfl) (fun o51 eo51 => ?_)
    replace hw := hw o51 eo51
    obtain ⟨a52, rfl, hw⟩ := hw
    refine v_alen X 0 rfl (by decide) (gD D_X11_refill_0 7 rfl) ?_
    refine v_icmp_ge X 60 (gD D_X11_refill_0 8 rfl) (by decide) (fun c53 => ?_) (fun c53 => ?_)
    · replace hw := hw.1 c53
      refine v_iload_n X 1 rfl (gD D_X11_refill_0 31 rfl) rfl ?_
      exact v_iret X hr hw (gD D_X11_refill_0 32 rfl)
    · replace hw := hw.2 c53
      refine v_aload_n X 0 rfl (gD D_X11_refill_0 9 rfl) rfl ?_
      refine v_getR X RX11 TX11 19 12 11 (by decide) rfl gin11 8 1108 RX11 (Or.inl rfl) 1 30 rfl rfl rfl (by decide) lk_fRX11_46 (gD D_X11_refill_0 10 rfl) (fun o54 eo54 => ?_)
      replace hw := hw o54 eo54
      obtain ⟨a55, rfl, hw⟩ := hw
      refine v_callVi X (As := []) (rest := []) (nA := 0) 0 0 k n (fun ht => c_Jx4a65c_size_8abf5 htr (ht.sub [0] rfl) hw) (Or.inl rfl) 0 (κ := 30) rfl (by decide) (rfl : gCl[13]? = some (RJx4a65c, TJx4a65c, 3)) lk_vRX11_145 (by decide +kernel) rfl rfl (by decide) (by decide) (by decide) rfl rfl (gD D_X11_refill_0 11 rfl) (fun x56 s57 hq _ _ => ?_)
      replace hw := hq
      clear hq
      refine v_bipush X 60 (gD D_X11_refill_0 12 rfl) (by decide) ?_
      refine v_icmp_ge X 60 (gD D_X11_refill_0 13 rfl) (by decide) (fun c58 => ?_) (fun c58 => ?_)
      · replace hw := hw.1 c58
        refine v_iload_n X 1 rfl (gD D_X11_refill_0 31 rfl) rfl ?_
        exact v_iret X hr hw (gD D_X11_refill_0 32 rfl)
      · replace hw := hw.2 c58
        refine v_aload_n X 0 rfl (gD D_X11_refill_0 14 rfl) rfl ?_
        refine v_getR X RX11 TX11 19 12 11 (by decide) rfl gin11 0 1100 RX11 (Or.inl rfl) 2 24 rfl rfl rfl (by decide) lk_fRX11_11 (gD D_X11_refill_0 15 rfl) (fun o59 eo59 => ?_)
        replace hw := hw o59 eo59
        refine v_iload_n X 2 rfl (gD D_X11_refill_0 16 rfl) rfl ?_
        obtain ⟨a60, rfl, hw⟩ := hw
        obtain ⟨h61, hw⟩ := hw
        refine v_aald X 0 10 rfl (by decide) h61 (gD D_X11_refill_0 17 rfl) (fun o62 eo62 => ?_)
        replace hw := hw o62 eo62
        obtain ⟨a63, rfl, hw⟩ := hw
        refine v_getR X RX9 TX9 5 10 9 (by decide) rfl gin9 2 902 RX9 (Or.inl rfl) 0 4 rfl rfl rfl (by decide) lk_fRX11_93 (gD D_X11_refill_0 18 rfl) (fun o64 eo64 => ?_)
        replace hw := hw o64 eo64
        refine v_ifnull X 54 (gD D_X11_refill_0 19 rfl) (by decide) (fun c65 => ?_) (fun a66 c65 => ?_)
        · replace hw := hw.1 c65
          subst c65
          refine v_iinc X (x2 + 1) 2 rfl [(2, .int (x2 + 1)), (0, va_rf (some a0)), (1, .int x1)] (gD D_X11_refill_0 29 rfl) rfl (by decide) rfl ?_
          refine v_goto X 4 (gD D_X11_refill_0 30 rfl) (by decide) ?_
          exact v_sub [5] [1, 2, 0] rfl rfl (ih a0 x1 (x2 + 1) s57 k n hw)
        · replace hw := hw.2 a66 c65
          subst c65
          refine v_aload_n X 0 rfl (gD D_X11_refill_0 20 rfl) rfl ?_
          refine v_iload_n X 2 rfl (gD D_X11_refill_0 21 rfl) rfl ?_
          refine v_aload_n X 0 rfl (gD D_X11_refill_0 22 rfl) rfl ?_
          refine v_getR X RX11 TX11 19 12 11 (by decide) rfl gin11 0 1100 RX11 (Or.inl rfl) 5 24 rfl rfl rfl (by decide) lk_fRX11_11 (gD D_X11_refill_0 23 rfl) (fun o67 eo67 => ?_)
          replace hw := hw o67 eo67
          refine v_iload_n X 2 rfl (gD D_X11_refill_0 24 rfl) rfl ?_
          obtain ⟨a68, rfl, hw⟩ := hw
          obtain ⟨h69, hw⟩ := hw
          refine v_aald X 0 10 rfl (by decide) h69 (gD D_X11_refill_0 25 rfl) (fun o70 eo70 => ?_)
          replace hw := hw o70 eo70
          obtain ⟨a71, rfl, hw⟩ := hw
          obtain ⟨k74, n75, k76, n77, h78, h79, hw⟩ := hw
          refine v_callVi X (As := [.int x2, va_rf (some a71)]) (rest := []) (nA := 2) k74 n75 k76 n77 (fun ht => c_X11_refillFace htr (ht.sub [7, 0] rfl) hw) (Or.inl rfl) 7 (κ := 12) rfl (by decide) (rfl : gCl[11]? = some (RX11, TX11, 19)) lk_vRX11_231 (by decide +kernel) rfl rfl (by decide) (by decide) (by decide) h78 h79 (gD D_X11_refill_0 26 rfl) (fun x72 s73 hq _ _ => ?_)
          replace hw := hq
          clear hq
          refine v_if_eq X 54 (gD D_X11_refill_0 27 rfl) (by decide) (fun c80 => ?_) (fun c80 => ?_)
          · replace hw := hw.1 c80
            refine v_iinc X (x2 + 1) 2 rfl [(2, .int (x2 + 1)), (0, va_rf (some a0)), (1, .int x1)] (gD D_X11_refill_0 29 rfl) rfl (by decide) rfl ?_
            refine v_goto X 4 (gD D_X11_refill_0 30 rfl) (by decide) ?_
            exact v_sub [7] [1, 2, 0] rfl rfl (ih a0 x1 (x2 + 1) s73 k76 n77 hw)
          · replace hw := hw.2 c80
            refine v_iinc X (x1 + 1) 1 rfl [(1, .int (x1 + 1)), (0, va_rf (some a0)), (2, .int x2)] (gD D_X11_refill_0 28 rfl) rfl (by decide) rfl ?_
            refine v_iinc X (x2 + 1) 2 rfl [(2, .int (x2 + 1)), (1, .int (x1 + 1)), (0, va_rf (some a0))] (gD D_X11_refill_0 29 rfl) rfl (by decide) rfl ?_
            refine v_goto X 4 (gD D_X11_refill_0 30 rfl) (by decide) ?_
            exact v_sub [7] [2, 1, 0] rfl rfl (ih a0 (x1 + 1) (x2 + 1) s73 k76 n77 hw)
set_option maxRecDepth 100000 in
set_option maxHeartbeats 4000000 in
theorem c_X11_refill {l : Launch} {G : GX} (htr : l.stackTraces = false) {k n : Nat} {σ : St} {a0 : Nat} {Q : Int32 → St → Prop} (ht : tvOk σ [(some a0, 12)]) (hw : w_X11_refill k n a0 σ Q) : MI l G 1 σ yX11_refill cX11_refill 3 (some .int) 8 k n [va_rf (some a0)] Q := by
  unfold w_X11_refill at hw
  refine m_start RX11 (by decide) htr ht (Nat.le_of_ble_eq_true rfl) rfl (lv := [(0, va_rf (some a0))]) (d := 1) (fun p e s m args below meth c X hr hin => ?_)
  refine v_iconst X 0 (gD D_X11_refill_0 0 rfl) (by decide) ?_
  refine v_istore_n X [(1, .int 0), (0, va_rf (some a0))] (gD D_X11_refill_0 1 rfl) rfl (by decide) rfl ?_
  refine v_iconst X 0 (gD D_X11_refill_0 2 rfl) (by decide) ?_
  refine v_istore_n X [(2, .int 0), (1, .int 0), (0, va_rf (some a0))] (gD D_X11_refill_0 3 rfl) rfl (by decide) rfl ?_
  obtain ⟨f81, hw⟩ := hw
  exact v_sub [0] [2, 1, 0] rfl rfl (t_X11_refill_4 X hr hin htr  f81 a0 0 0 σ k n hw)
set_option maxRecDepth 100000 in
set_option maxHeartbeats 4000000 in
theorem t_X11_allocateOrder_21 {p : Program} {l : Launch} {e : Env} {s : State} {m : MethodId} {args : Array Value} {below : List Frame} {meth : Method} {c : Code} {G : GX} {σ0 : St} {mc ms : Nat} {Q : Int32 → St → Prop} (X : VC p l (rmD 9 mc ms) s m args meth c G 9 mc ms 4 RX11 cX11_allocateOrder) (hr : meth.sig.returnType = (some .int)) (hin : meth.name = yX11_allocateOrder.name) (htr : l.stackTraces = false) : ∀ (f : Nat) (a0 : Nat) (a1 : Nat) (x2 : Int32) (x3 : Int32) (σ : St) (k n : Nat), w_X11_allocateOrder_21 Q  f a0 a1 x2 x3 σ k n → V p l e (rmD 9 mc ms) s m args below meth c (MQ below (va_Qi Q (gB G 1 σ0) (GA G)) args s mc ms (GA G)) G 1 σ0 mc ms 4 σ k n [(some a0, 12), (some a1, 8)] 21 [(0, va_rf (some a0)), (1, va_rf (some a1)), (2, .int x2), (3, .int x3)] [] := by
  intro f
  induction f with
  | zero => intro a0 a1 x2 x3 σ k n hw; exact hw.elim
  | succ f ih =>
    intro a0 a1 x2 x3 σ k n hw
    unfold w_X11_allocateOrder_21 at hw
    refine v_iload_n X 3 rfl (gD D_X11_allocateOrder_0 13 rfl) rfl ?_
    refine v_aload_n X 1 rfl (gD D_X11_allocateOrder_0 14 rfl) rfl ?_
    refine v_getR X RX7 TX7 7 8 7 (by decide) rfl gin7 4 704 RX7 (Or.inl rfl) 1 30 rfl rfl rfl (by decide) lk_fRX11_243 (gD D_X11_allocateOrder_0 15 rfl) (fun o52 eo52 => ?_)
    replace hw := hw o52 eo52
    obtain ⟨a53, rfl, hw⟩ := hw
    refine v_callVi X (As := []) (rest := [.int x3]) (nA := 0) 0 0 k n (fun ht => c_Jx4a65c_size_8abf5 htr (ht.sub [0] rfl) hw) (Or.inl rfl) 0 (κ := 30) rfl (by decide) (rfl : gCl[13]? = some (RJx4a65c, TJx4a65c, 3)) lk_vRX11_145 (by decide +kernel) rfl rfl (by simp [rf_cat, ct_i]) (by decide) (by decide) rfl rfl (gD D_X11_allocateOrder_0 16 rfl) (fun x54 s55 hq _ _ => ?_)
    replace hw := hq
    clear hq
    refine v_icmp_ge X 57 (gD D_X11_allocateOrder_0 17 rfl) (by decide) (fun c56 => ?_) (fun c56 => ?_)
    · replace hw := hw.1 c56
      refine v_iload_n X 2 rfl (gD D_X11_allocateOrder_0 31 rfl) rfl ?_
      exact v_iret X hr hw (gD D_X11_allocateOrder_0 32 rfl)
    · replace hw := hw.2 c56
      refine v_iload_n X 2 rfl (gD D_X11_allocateOrder_0 18 rfl) rfl ?_
      refine v_aload_n X 0 rfl (gD D_X11_allocateOrder_0 19 rfl) rfl ?_
      refine v_aload_n X 1 rfl (gD D_X11_allocateOrder_0 20 rfl) rfl ?_
      refine v_aload_n X 1 rfl (gD D_X11_allocateOrder_0 21 rfl) rfl ?_
      refine v_getR X RX7 TX7 7 8 7 (by decide) rfl gin7 4 704 RX7 (Or.inl rfl) 2 30 rfl rfl rfl (by decide) lk_fRX11_243 (gD D_X11_allocateOrder_0 22 rfl) (fun o57 eo57 => ?_)
      replace hw := hw o57 eo57
      refine v_iload_n X 3 rfl (gD D_X11_allocateOrder_0 23 rfl) rfl ?_
      obtain ⟨a58, rfl, hw⟩ := hw
      refine v_callVu X (As := [.int x3]) (rest := [va_rf (some a1), va_rf (some a0), .int x2]) (nA := 1) 0 0 k n (fun ht => c_Jx4a65c_get_915e3 htr (ht.sub [0] rfl) hw) (Or.inl rfl) 0 (κ := 30) rfl (by decide) (rfl : gCl[13]? = some (RJx4a65c, TJx4a65c, 3)) lk_vRX11_153 (by decide +kernel) rfl rfl (by simp [rf_cat, ct_i]) (by decide) (by decide) rfl rfl (gD D_X11_allocateOrder_0 24 rfl) (fun o59 s60 hq _ _ => ?_)
      replace hw := hq
      clear hq
      obtain ⟨a61, rfl, hw⟩ := hw
      obtain ⟨h62, hw⟩ := hw
      refine v_cast X RX4 TX4 4 5 4 h62 (by decide) rfl lk_kRX11_249 (gD D_X11_allocateOrder_0 25 rfl) ?_
      obtain ⟨k65, n66, k67, n68, h69, h70, hw⟩ := hw
      refine v_callVi X (As := [va_rf (some a1), va_rf (some a61)]) (rest := [.int x2]) (nA := 2) k65 n66 k67 n68 (fun ht => c_X11_allocateLine htr (ht.sub [3, 4, 0] rfl) hw) (Or.inl rfl) 3 (κ := 12) rfl (by decide) (rfl : gCl[11]? = some (RX11, TX11, 19)) lk_vRX11_450 (by decide +kernel) rfl rfl (by simp [rf_cat, ct_i]) (by decide) (by decide) h69 h70 (gD D_X11_allocateOrder_0 26 rfl) (fun x63 s64 hq _ _ => ?_)
      replace hw := hq
      clear hq
      refine v_iadd X (gD D_X11_allocateOrder_0 27 rfl) ?_
      refine v_topi (fun x71 ex71 => ?_)
      replace hw := hw x71 ex71
      refine v_istore_n X [(2, .int x71), (0, va_rf (some a0)), (1, va_rf (some a1)), (3, .int x3)] (gD D_X11_allocateOrder_0 28 rfl) rfl (by decide) rfl ?_
      refine v_iinc X (x3 + 1) 3 rfl [(3, .int (x3 + 1)), (2, .int x71), (0, va_rf (some a0)), (1, va_rf (some a1))] (gD D_X11_allocateOrder_0 29 rfl) rfl (by decide) rfl ?_
      refine v_goto X 21 (gD D_X11_allocateOrder_0 30 rfl) (by decide) ?_
      exact v_sub [3, 4] [2, 3, 1, 0] rfl rfl (ih a0 a1 x71 (x3 + 1) s64 k67 n68 hw)
set_option maxRecDepth 100000 in
set_option maxHeartbeats 4000000 in
theorem c_X11_allocateOrder {l : Launch} {G : GX} (htr : l.stackTraces = false) {k n : Nat} {σ : St} {a0 : Nat} {a1 : Nat} {Q : Int32 → St → Prop} (ht : tvOk σ [(some a0, 12), (some a1, 8)]) (hw : w_X11_allocateOrder k n a0 a1 σ Q) : MI l G 1 σ yX11_allocateOrder cX11_allocateOrder 4 (some .int) 9 k n [va_rf (some a0), va_rf (some a1)] Q := by
  unfold w_X11_allocateOrder at hw
  refine m_start RX11 (by decide) htr ht (Nat.le_of_ble_eq_true rfl) rfl (lv := [(0, va_rf (some a0)), (1, va_rf (some a1))]) (d := 1) (fun p e s m args below meth c X hr hin => ?_)
  refine v_aload_n X 1 rfl (gD D_X11_allocateOrder_0 0 rfl) rfl ?_
  refine v_getI X RX7 TX7 7 8 7 (by decide) rfl gin7 2 702 RX7 (Or.inl rfl) 1 rfl rfl (by decide) lk_fRX11_443 (gD D_X11_allocateOrder_0 1 rfl) ?_
  refine v_if_eq X 17 (gD D_X11_allocateOrder_0 2 rfl) (by decide) (fun c51 => ?_) (fun c51 => ?_)
  · replace hw := hw.1 c51
    refine v_iconst X 0 (gD D_X11_allocateOrder_0 9 rfl) (by decide) ?_
    refine v_istore_n X [(2, .int 0), (0, va_rf (some a0)), (1, va_rf (some a1))] (gD D_X11_allocateOrder_0 10 rfl) rfl (by decide) rfl ?_
    refine v_iconst X 0 (gD D_X11_allocateOrder_0 11 rfl) (by decide) ?_
    refine v_istore_n X [(3, .int 0), (2, .int 0), (0, va_rf (some a0)), (1, va_rf (some a1))] (gD D_X11_allocateOrder_0 12 rfl) rfl (by decide) rfl ?_
    obtain ⟨f72, hw⟩ := hw
    exact v_sub [0, 1] [2, 3, 1, 0] rfl rfl (t_X11_allocateOrder_21 X hr hin htr  f72 a0 a1 0 0 σ k n hw)
  · replace hw := hw.2 c51
    refine v_aload_n X 0 rfl (gD D_X11_allocateOrder_0 3 rfl) rfl ?_
    refine v_aload_n X 1 rfl (gD D_X11_allocateOrder_0 4 rfl) rfl ?_
    refine v_callVi X (As := [va_rf (some a1)]) (rest := []) (nA := 1) 0 0 k n (fun ht => c_X11_canBeWhole htr (ht.sub [0, 1] rfl) hw) (Or.inl rfl) 0 (κ := 12) rfl (by decide) (rfl : gCl[11]? = some (RX11, TX11, 19)) lk_vRX11_446 (by decide +kernel) rfl rfl (by decide) (by decide) (by decide) rfl rfl (gD D_X11_allocateOrder_0 5 rfl) (fun x73 s74 hq _ _ => ?_)
    replace hw := hq
    clear hq
    refine v_if_ne X 17 (gD D_X11_allocateOrder_0 6 rfl) (by decide) (fun c75 => ?_) (fun c75 => ?_)
    · replace hw := hw.1 c75
      refine v_iconst X 0 (gD D_X11_allocateOrder_0 9 rfl) (by decide) ?_
      refine v_istore_n X [(2, .int 0), (0, va_rf (some a0)), (1, va_rf (some a1))] (gD D_X11_allocateOrder_0 10 rfl) rfl (by decide) rfl ?_
      refine v_iconst X 0 (gD D_X11_allocateOrder_0 11 rfl) (by decide) ?_
      refine v_istore_n X [(3, .int 0), (2, .int 0), (0, va_rf (some a0)), (1, va_rf (some a1))] (gD D_X11_allocateOrder_0 12 rfl) rfl (by decide) rfl ?_
      obtain ⟨f76, hw⟩ := hw
      exact v_sub [0, 1] [2, 3, 1, 0] rfl rfl (t_X11_allocateOrder_21 X hr hin htr  f76 a0 a1 0 0 s74 k n hw)
    · replace hw := hw.2 c75
      refine v_iconst X 0 (gD D_X11_allocateOrder_0 7 rfl) (by decide) ?_
      exact v_iret X hr hw (gD D_X11_allocateOrder_0 8 rfl)
set_option maxRecDepth 100000 in
set_option maxHeartbeats 4000000 in
theorem t_X11_allocate_11 {p : Program} {l : Launch} {e : Env} {s : State} {m : MethodId} {args : Array Value} {below : List Frame} {meth : Method} {c : Code} {G : GX} {σ0 : St} {mc ms : Nat} {Q : Int32 → St → Prop} (X : VC p l (rmD 10 mc ms) s m args meth c G 10 mc ms 5 RX11 cX11_allocate) (hr : meth.sig.returnType = (some .int)) (hin : meth.name = yX11_allocate.name) (htr : l.stackTraces = false) {K5 : Nat → Int32 → Int32 → St → Nat → Nat → Prop} (hK5 : ∀ (a0 : Nat) (x1 : Int32) (x2 : Int32) (σ : St) (k n : Nat), K5 a0 x1 x2 σ k n → V p l e (rmD 10 mc ms) s m args below meth c (MQ below (va_Qi Q (gB G 1 σ0) (GA G)) args s mc ms (GA G)) G 1 σ0 mc ms 5 σ k n [(some a0, 12)] 5 [(0, va_rf (some a0)), (1, .int x1), (2, .int x2)] []) : ∀ (f : Nat) (a0 : Nat) (x1 : Int32) (x2 : Int32) (x3 : Int32) (σ : St) (k n : Nat), w_X11_allocate_11 Q K5 f a0 x1 x2 x3 σ k n → V p l e (rmD 10 mc ms) s m args below meth c (MQ below (va_Qi Q (gB G 1 σ0) (GA G)) args s mc ms (GA G)) G 1 σ0 mc ms 5 σ k n [(some a0, 12)] 11 [(0, va_rf (some a0)), (1, .int x1), (2, .int x2), (3, .int x3)] [] := by
  intro f
  induction f with
  | zero => intro a0 x1 x2 x3 σ k n hw; exact hw.elim
  | succ f ih =>
    intro a0 x1 x2 x3 σ k n hw
    unfold w_X11_allocate_11 at hw
    refine v_iload_n X 3 rfl (gD D_X11_allocate_0 8 rfl) rfl ?_
    refine v_aload_n X 0 rfl (gD D_X11_allocate_0 9 rfl) rfl ?_
    refine v_getR X RX11 TX11 19 12 11 (by decide) rfl gin11 6 1106 RX11 (Or.inl rfl) 0 30 rfl rfl rfl (by decide) lk_fRX11_40 (gD D_X11_allocate_0 10 rfl) (fun o52 eo52 => ?_)
    replace hw := hw o52 eo52
    obtain ⟨a53, rfl, hw⟩ := hw
    refine v_callVi X (As := []) (rest := [.int x3]) (nA := 0) 0 0 k n (fun ht => c_Jx4a65c_size_8abf5 htr (ht.sub [0] rfl) hw) (Or.inl rfl) 0 (κ := 30) rfl (by decide) (rfl : gCl[13]? = some (RJx4a65c, TJx4a65c, 3)) lk_vRX11_145 (by decide +kernel) rfl rfl (by simp [rf_cat, ct_i]) (by decide) (by decide) rfl rfl (gD D_X11_allocate_0 11 rfl) (fun x54 s55 hq _ _ => ?_)
    replace hw := hq
    clear hq
    refine v_icmp_ge X 67 (gD D_X11_allocate_0 12 rfl) (by decide) (fun c56 => ?_) (fun c56 => ?_)
    · replace hw := hw.1 c56
      refine v_iinc X (x2 + (-1)) 2 rfl [(2, .int (x2 + (-1))), (0, va_rf (some a0)), (1, .int x1), (3, .int x3)] (gD D_X11_allocate_0 34 rfl) rfl (by decide) rfl ?_
      refine v_goto X 5 (gD D_X11_allocate_0 35 rfl) (by decide) ?_
      exact v_sub [1] [1, 2, 0] rfl rfl (hK5 a0 x1 (x2 + (-1)) s55 k n hw)
    · replace hw := hw.2 c56
      refine v_aload_n X 0 rfl (gD D_X11_allocate_0 13 rfl) rfl ?_
      refine v_getR X RX11 TX11 19 12 11 (by decide) rfl gin11 6 1106 RX11 (Or.inl rfl) 1 30 rfl rfl rfl (by decide) lk_fRX11_40 (gD D_X11_allocate_0 14 rfl) (fun o57 eo57 => ?_)
      replace hw := hw o57 eo57
      refine v_iload_n X 3 rfl (gD D_X11_allocate_0 15 rfl) rfl ?_
      obtain ⟨a58, rfl, hw⟩ := hw
      refine v_callVu X (As := [.int x3]) (rest := []) (nA := 1) 0 0 k n (fun ht => c_Jx4a65c_get_915e3 htr (ht.sub [0] rfl) hw) (Or.inl rfl) 0 (κ := 30) rfl (by decide) (rfl : gCl[13]? = some (RJx4a65c, TJx4a65c, 3)) lk_vRX11_153 (by decide +kernel) rfl rfl (by decide) (by decide) (by decide) rfl rfl (gD D_X11_allocate_0 16 rfl) (fun o59 s60 hq _ _ => ?_)
      replace hw := hq
      clear hq
      obtain ⟨a61, rfl, hw⟩ := hw
      obtain ⟨h62, hw⟩ := hw
      refine v_cast X RX7 TX7 7 8 7 h62 (by decide) rfl lk_kRX11_235 (gD D_X11_allocate_0 17 rfl) ?_
      refine v_astore X [(4, va_rf (some a61)), (0, va_rf (some a0)), (1, .int x1), (2, .int x2), (3, .int x3)] (gD D_X11_allocate_0 18 rfl) (by decide) rfl ?_
      refine v_aload X 0 rfl (gD D_X11_allocate_0 19 rfl) ?_
      refine v_getI X RX7 TX7 7 8 7 (by decide) rfl gin7 1 701 RX7 (Or.inl rfl) 0 rfl rfl (by decide) lk_fRX11_252 (gD D_X11_allocate_0 20 rfl) ?_
      refine v_iload_n X 3 rfl (gD D_X11_allocate_0 21 rfl) rfl ?_
      refine v_icmp_ne X 61 (gD D_X11_allocate_0 22 rfl) (by decide) (fun c63 => ?_) (fun c63 => ?_)
      · replace hw := hw.1 c63
        refine v_iinc X (x3 + 1) 4 rfl [(3, .int (x3 + 1)), (4, va_rf (some a61)), (0, va_rf (some a0)), (1, .int x1), (2, .int x2)] (gD D_X11_allocate_0 32 rfl) rfl (by decide) rfl ?_
        refine v_goto X 11 (gD D_X11_allocate_0 33 rfl) (by decide) ?_
        exact v_sub [3] [2, 3, 4, 0] rfl rfl (ih a0 x1 x2 (x3 + 1) s60 k n hw)
      · replace hw := hw.2 c63
        refine v_aload X 0 rfl (gD D_X11_allocate_0 23 rfl) ?_
        refine v_getI X RX7 TX7 7 8 7 (by decide) rfl gin7 5 705 RX7 (Or.inl rfl) 0 rfl rfl (by decide) lk_fRX11_246 (gD D_X11_allocate_0 24 rfl) ?_
        refine v_if_ne X 61 (gD D_X11_allocate_0 25 rfl) (by decide) (fun c64 => ?_) (fun c64 => ?_)
        · replace hw := hw.1 c64
          refine v_iinc X (x3 + 1) 4 rfl [(3, .int (x3 + 1)), (4, va_rf (some a61)), (0, va_rf (some a0)), (1, .int x1), (2, .int x2)] (gD D_X11_allocate_0 32 rfl) rfl (by decide) rfl ?_
          refine v_goto X 11 (gD D_X11_allocate_0 33 rfl) (by decide) ?_
          exact v_sub [3] [2, 3, 4, 0] rfl rfl (ih a0 x1 x2 (x3 + 1) s60 k n hw)
        · replace hw := hw.2 c64
          refine v_iload_n X 2 rfl (gD D_X11_allocate_0 26 rfl) rfl ?_
          refine v_aload_n X 1 rfl (gD D_X11_allocate_0 27 rfl) rfl ?_
          refine v_aload X 0 rfl (gD D_X11_allocate_0 28 rfl) ?_
          obtain ⟨k67, n68, k69, n70, h71, h72, hw⟩ := hw
          refine v_callVi X (As := [va_rf (some a61)]) (rest := [.int x1]) (nA := 1) k67 n68 k69 n70 (fun ht => c_X11_allocateOrder htr (ht.sub [3, 0] rfl) hw) (Or.inl rfl) 3 (κ := 12) rfl (by decide) (rfl : gCl[11]? = some (RX11, TX11, 19)) lk_vRX11_255 (by decide +kernel) rfl rfl (by simp [rf_cat, ct_i]) (by decide) (by decide) h71 h72 (gD D_X11_allocate_0 29 rfl) (fun x65 s66 hq _ _ => ?_)
          replace hw := hq
          clear hq
          refine v_iadd X (gD D_X11_allocate_0 30 rfl) ?_
          refine v_topi (fun x73 ex73 => ?_)
          replace hw := hw x73 ex73
          refine v_istore_n X [(1, .int x73), (4, va_rf (some a61)), (0, va_rf (some a0)), (2, .int x2), (3, .int x3)] (gD D_X11_allocate_0 31 rfl) rfl (by decide) rfl ?_
          refine v_iinc X (x3 + 1) 4 rfl [(3, .int (x3 + 1)), (1, .int x73), (4, va_rf (some a61)), (0, va_rf (some a0)), (2, .int x2)] (gD D_X11_allocate_0 32 rfl) rfl (by decide) rfl ?_
          refine v_goto X 11 (gD D_X11_allocate_0 33 rfl) (by decide) ?_
          exact v_sub [3] [3, 1, 4, 0] rfl rfl (ih a0 x73 x2 (x3 + 1) s66 k69 n70 hw)
set_option maxRecDepth 100000 in
set_option maxHeartbeats 4000000 in
theorem t_X11_allocate_5 {p : Program} {l : Launch} {e : Env} {s : State} {m : MethodId} {args : Array Value} {below : List Frame} {meth : Method} {c : Code} {G : GX} {σ0 : St} {mc ms : Nat} {Q : Int32 → St → Prop} (X : VC p l (rmD 10 mc ms) s m args meth c G 10 mc ms 5 RX11 cX11_allocate) (hr : meth.sig.returnType = (some .int)) (hin : meth.name = yX11_allocate.name) (htr : l.stackTraces = false) : ∀ (f : Nat) (a0 : Nat) (x1 : Int32) (x2 : Int32) (σ : St) (k n : Nat), w_X11_allocate_5 Q  f a0 x1 x2 σ k n → V p l e (rmD 10 mc ms) s m args below meth c (MQ below (va_Qi Q (gB G 1 σ0) (GA G)) args s mc ms (GA G)) G 1 σ0 mc ms 5 σ k n [(some a0, 12)] 5 [(0, va_rf (some a0)), (1, .int x1), (2, .int x2)] [] := by
  intro f
  induction f with
  | zero => intro a0 x1 x2 σ k n hw; exact hw.elim
  | succ f ih =>
    intro a0 x1 x2 σ k n hw
    unfold w_X11_allocate_5 at hw
    refine v_iload_n X 2 rfl (gD D_X11_allocate_0 4 rfl) rfl ?_
    refine v_if_lt X 73 (gD D_X11_allocate_0 5 rfl) (by decide) (fun c51 => ?_) (fun c51 => ?_)
    · replace hw := hw.1 c51
      refine v_iload_n X 1 rfl (gD D_X11_allocate_0 36 rfl) rfl ?_
      exact v_iret X hr hw (gD D_X11_allocate_0 37 rfl)
    · replace hw := hw.2 c51
      refine v_iconst X 0 (gD D_X11_allocate_0 6 rfl) (by decide) ?_
      refine v_istore_n X [(3, .int 0), (0, va_rf (some a0)), (1, .int x1), (2, .int x2)] (gD D_X11_allocate_0 7 rfl) rfl (by decide) rfl ?_
      obtain ⟨f74, hw⟩ := hw
      exact v_sub [0] [1, 2, 3, 0] rfl rfl (t_X11_allocate_11 X hr hin htr ih f74 a0 x1 x2 0 σ k n hw)
set_option maxRecDepth 100000 in
set_option maxHeartbeats 4000000 in
theorem c_X11_allocate {l : Launch} {G : GX} (htr : l.stackTraces = false) {k n : Nat} {σ : St} {a0 : Nat} {Q : Int32 → St → Prop} (ht : tvOk σ [(some a0, 12)]) (hw : w_X11_allocate k n a0 σ Q) : MI l G 1 σ yX11_allocate cX11_allocate 5 (some .int) 10 k n [va_rf (some a0)] Q := by
  unfold w_X11_allocate at hw
  refine m_start RX11 (by decide) htr ht (Nat.le_of_ble_eq_true rfl) rfl (lv := [(0, va_rf (some a0))]) (d := 1) (fun p e s m args below meth c X hr hin => ?_)
  refine v_iconst X 0 (gD D_X11_allocate_0 0 rfl) (by decide) ?_
  refine v_istore_n X [(1, .int 0), (0, va_rf (some a0))] (gD D_X11_allocate_0 1 rfl) rfl (by decide) rfl ?_
  refine v_bipush X 9 (gD D_X11_allocate_0 2 rfl) (by decide) ?_
  refine v_istore_n X [(2, .int 9), (1, .int 0), (0, va_rf (some a0))] (gD D_X11_allocate_0 3 rfl) rfl (by decide) rfl ?_
  obtain ⟨f75, hw⟩ := hw
  exact v_sub [0] [2, 1, 0] rfl rfl (t_X11_allocate_5 X hr hin htr  f75 a0 0 9 σ k n hw)
