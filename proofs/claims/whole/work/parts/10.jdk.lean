set_option maxRecDepth 100000 in
set_option maxHeartbeats 4000000 in
theorem c_J3_checkIndex_8e157 {l : Launch} {G : GX} (htr : l.stackTraces = false) {σ : St} {x0 : Int32} {x1 : Int32} {o2 : Option Nat} {Q : Int32 → St → Prop} (ht : tvOk σ []) (hw : w_J3_checkIndex_8e157 x0 x1 o2 σ Q) : MI l G 1 σ yJ3_checkIndex_8e157 cJ3_checkIndex_8e157 3 (some .int) 0 0 0 [.int x0, .int x1, va_rf o2] Q := by
  unfold w_J3_checkIndex_8e157 at hw
  refine m_start RJ3 (by decide) htr ht (by simp [lg_sl, rf_cat, ct_i]) (by simp [lv_args, rf_cat, ct_i]) (lv := [(0, .int x0), (1, .int x1), (2, va_rf o2)]) (d := 1) (fun p e s m args below meth c X hr hin => ?_)
  refine v_iload_n X 0 rfl (gD D_J3_checkIndex_8e157_0 0 rfl) rfl ?_
  refine v_if_lt X 9 (gD D_J3_checkIndex_8e157_0 1 rfl) (by decide) (fun c51 => ?_) (fun c51 => ?_)
  · replace hw := hw.1 c51
    exact hw.elim
  · replace hw := hw.2 c51
    refine v_iload_n X 0 rfl (gD D_J3_checkIndex_8e157_0 2 rfl) rfl ?_
    refine v_iload_n X 1 rfl (gD D_J3_checkIndex_8e157_0 3 rfl) rfl ?_
    refine v_icmp_lt X 16 (gD D_J3_checkIndex_8e157_0 4 rfl) (by decide) (fun c52 => ?_) (fun c52 => ?_)
    · replace hw := hw.1 c52
      refine v_iload_n X 0 rfl (gD D_J3_checkIndex_8e157_0 10 rfl) rfl ?_
      exact v_iret X hr hw (gD D_J3_checkIndex_8e157_0 11 rfl)
    · replace hw := hw.2 c52
      exact hw.elim
set_option maxRecDepth 100000 in
set_option maxHeartbeats 4000000 in
theorem c_J7_copyOf_59c91 {l : Launch} {G : GX} (htr : l.stackTraces = false) {k n : Nat} {σ : St} {a0 : Nat} {x1 : Int32} {Q : Option Nat → St → Prop} (ht : tvOk σ [(some a0, 20)]) (hw : w_J7_copyOf_59c91 k n a0 x1 σ Q) : MR l G 1 σ yJ7_copyOf_59c91 cJ7_copyOf_59c91 3 (some (.array .int)) 0 k n [va_rf (some a0), .int x1] 20 Q := by
  unfold w_J7_copyOf_59c91 at hw
  refine m_start RJ7 (by decide) htr ht (Nat.le_of_ble_eq_true rfl) rfl (lv := [(0, va_rf (some a0)), (1, .int x1)]) (d := 1) (fun p e s m args below meth c X hr hin => ?_)
  refine v_iload_n X 1 rfl (gD D_J7_copyOf_59c91_0 0 rfl) rfl ?_
  refine v_aload_n X 0 rfl (gD D_J7_copyOf_59c91_0 1 rfl) rfl ?_
  refine v_alen X 0 rfl (by decide) (gD D_J7_copyOf_59c91_0 2 rfl) ?_
  refine v_icmp_ne X 14 (gD D_J7_copyOf_59c91_0 3 rfl) (by decide) (fun c51 => ?_) (fun c51 => ?_)
  · replace hw := hw.1 c51
    refine v_iload_n X 1 rfl (gD D_J7_copyOf_59c91_0 8 rfl) rfl ?_
    obtain ⟨h52, h53, hw⟩ := hw
    obtain ⟨k54, n55, h56, h57, hw⟩ := hw
    refine v_newI X 20 (by decide) lk_acint h52 h53 k54 n55 h56 h57 (gD D_J7_copyOf_59c91_0 9 rfl) (fun a58 s59 ha58 es59 => ?_)
    replace hw := hw a58 s59 ha58 es59
    refine v_astore_n X [(2, va_rf (some a58)), (0, va_rf (some a0)), (1, .int x1)] (gD D_J7_copyOf_59c91_0 10 rfl) rfl (by decide) rfl ?_
    refine v_aload_n X 1 rfl (gD D_J7_copyOf_59c91_0 11 rfl) rfl ?_
    refine v_iconst X 0 (gD D_J7_copyOf_59c91_0 12 rfl) (by decide) ?_
    refine v_aload_n X 0 rfl (gD D_J7_copyOf_59c91_0 13 rfl) rfl ?_
    refine v_iconst X 0 (gD D_J7_copyOf_59c91_0 14 rfl) (by decide) ?_
    refine v_aload_n X 1 rfl (gD D_J7_copyOf_59c91_0 15 rfl) rfl ?_
    refine v_alen X 1 rfl (by decide) (gD D_J7_copyOf_59c91_0 16 rfl) ?_
    refine v_iload_n X 2 rfl (gD D_J7_copyOf_59c91_0 17 rfl) rfl ?_
    refine v_mmin X lk_mRJ7_304 lk_s_math_min lk_n_math lk_c_math_min (by simp [rf_cat, ct_i]) (gD D_J7_copyOf_59c91_0 18 rfl) ?_
    obtain ⟨h60, h61, h62, h63, h64, hw⟩ := hw
    refine v_cpyA X 1 0 rfl rfl (Or.inl rfl) h60 h61 h62 h63 h64 lk_mRJ7_150 lk_na_acopy lk_s_acopy lk_n_System (by decide) (gD D_J7_copyOf_59c91_0 19 rfl) (fun s65 es65 => ?_)
    replace hw := hw s65 es65
    refine v_aload_n X 0 rfl (gD D_J7_copyOf_59c91_0 20 rfl) rfl ?_
    exact v_aret X hr (Or.inr ⟨_, rfl⟩) (Or.inr (Or.inr ⟨0, rfl⟩)) hw (gD D_J7_copyOf_59c91_0 21 rfl)
  · replace hw := hw.2 c51
    exact hw.elim
set_option maxRecDepth 100000 in
set_option maxHeartbeats 4000000 in
theorem c_J7_copyOf_6403c {l : Launch} {G : GX} (htr : l.stackTraces = false) {k n : Nat} {σ : St} {a0 : Nat} {x1 : Int32} {a2 : Nat} {Q : Option Nat → St → Prop} (ht : tvOk σ [(some a0, 50)]) (hw : w_J7_copyOf_6403c k n a0 x1 a2 σ Q) : MR l G 1 σ yJ7_copyOf_6403c cJ7_copyOf_6403c 4 (some (.array (.object "java/lang/Object"))) 0 k n [va_rf (some a0), .int x1, va_rf (some a2)] 50 Q := by
  unfold w_J7_copyOf_6403c at hw
  refine m_start RJ7 (by decide) htr ht (Nat.le_of_ble_eq_true rfl) rfl (lv := [(0, va_rf (some a0)), (1, .int x1), (2, va_rf (some a2))]) (d := 1) (fun p e s m args below meth c X hr hin => ?_)
  refine v_aload_n X 2 rfl (gD D_J7_copyOf_6403c_0 0 rfl) rfl ?_
  refine v_ldcM X lk_kRJ7_110 (gD D_J7_copyOf_6403c_0 1 rfl) (fun a51 ha51 => ?_)
  replace hw := hw a51 ha51
  refine v_acmp_ne X 13 (gD D_J7_copyOf_6403c_0 2 rfl) (by decide) (fun c52 => ?_) (fun c52 => ?_)
  · replace hw := hw.1 c52
    exact hw.elim
  · replace hw := hw.2 c52
    refine v_iload_n X 1 rfl (gD D_J7_copyOf_6403c_0 3 rfl) rfl ?_
    obtain ⟨h53, h54, hw⟩ := hw
    obtain ⟨k55, n56, h57, h58, hw⟩ := hw
    refine v_newQ X (C := "java/lang/Object") 50 (by decide) rfl (List.mem_of_getElem? (i := 3) rfl) lk_kRJ7_2 h53 h54 k55 n56 h57 h58 (gD D_J7_copyOf_6403c_0 4 rfl) (fun a59 s60 ha59 es60 => ?_)
    replace hw := hw a59 s60 ha59 es60
    refine v_goto X 24 (gD D_J7_copyOf_6403c_0 5 rfl) (by decide) ?_
    refine v_astore_n X [(3, va_rf (some a59)), (0, va_rf (some a0)), (1, .int x1), (2, va_rf (some a2))] (gD D_J7_copyOf_6403c_0 11 rfl) rfl (by decide) rfl ?_
    refine v_aload_n X 1 rfl (gD D_J7_copyOf_6403c_0 12 rfl) rfl ?_
    refine v_iconst X 0 (gD D_J7_copyOf_6403c_0 13 rfl) (by decide) ?_
    refine v_aload_n X 0 rfl (gD D_J7_copyOf_6403c_0 14 rfl) rfl ?_
    refine v_iconst X 0 (gD D_J7_copyOf_6403c_0 15 rfl) (by decide) ?_
    refine v_aload_n X 1 rfl (gD D_J7_copyOf_6403c_0 16 rfl) rfl ?_
    refine v_alen X 1 rfl (by decide) (gD D_J7_copyOf_6403c_0 17 rfl) ?_
    refine v_iload_n X 2 rfl (gD D_J7_copyOf_6403c_0 18 rfl) rfl ?_
    refine v_mmin X lk_mRJ7_304 lk_s_math_min lk_n_math lk_c_math_min (by simp [rf_cat, ct_i]) (gD D_J7_copyOf_6403c_0 19 rfl) ?_
    obtain ⟨h61, h62, h63, h64, h65, h66, h67, hw⟩ := hw
    refine v_cpyQ X 1 0 rfl rfl (Or.inl rfl) h61 h62 h63 h64 h65 h66 h67 lk_mRJ7_150 lk_na_acopy lk_s_acopy lk_n_System (by decide) (gD D_J7_copyOf_6403c_0 20 rfl) (fun s68 es68 => ?_)
    replace hw := hw s68 es68
    refine v_aload_n X 0 rfl (gD D_J7_copyOf_6403c_0 21 rfl) rfl ?_
    exact v_aret X hr (Or.inr ⟨_, rfl⟩) (Or.inr (Or.inr ⟨0, rfl⟩)) hw (gD D_J7_copyOf_6403c_0 22 rfl)
set_option maxRecDepth 100000 in
set_option maxHeartbeats 4000000 in
theorem c_J8_newLength_cabcc {l : Launch} {G : GX} (htr : l.stackTraces = false) {σ : St} {x0 : Int32} {x1 : Int32} {x2 : Int32} {Q : Int32 → St → Prop} (ht : tvOk σ []) (hw : w_J8_newLength_cabcc x0 x1 x2 σ Q) : MI l G 1 σ yJ8_newLength_cabcc cJ8_newLength_cabcc 4 (some .int) 0 0 0 [.int x0, .int x1, .int x2] Q := by
  unfold w_J8_newLength_cabcc at hw
  refine m_start RJ8 (by decide) htr ht (Nat.le_of_ble_eq_true rfl) rfl (lv := [(0, .int x0), (1, .int x1), (2, .int x2)]) (d := 1) (fun p e s m args below meth c X hr hin => ?_)
  refine v_iload_n X 0 rfl (gD D_J8_newLength_cabcc_0 0 rfl) rfl ?_
  refine v_iload_n X 1 rfl (gD D_J8_newLength_cabcc_0 1 rfl) rfl ?_
  refine v_iload_n X 2 rfl (gD D_J8_newLength_cabcc_0 2 rfl) rfl ?_
  refine v_mmax X lk_mRJ8_194 lk_s_math_max lk_n_math lk_c_math_max (by simp [rf_cat, ct_i]) (gD D_J8_newLength_cabcc_0 3 rfl) ?_
  refine v_iadd X (gD D_J8_newLength_cabcc_0 4 rfl) ?_
  refine v_topi (fun x51 ex51 => ?_)
  replace hw := hw x51 ex51
  refine v_istore_n X [(3, .int x51), (0, .int x0), (1, .int x1), (2, .int x2)] (gD D_J8_newLength_cabcc_0 5 rfl) rfl (by decide) rfl ?_
  refine v_iconst X 0 (gD D_J8_newLength_cabcc_0 6 rfl) (by decide) ?_
  refine v_iload_n X 0 rfl (gD D_J8_newLength_cabcc_0 7 rfl) rfl ?_
  refine v_icmp_ge X 21 (gD D_J8_newLength_cabcc_0 8 rfl) (by decide) (fun c52 => ?_) (fun c52 => ?_)
  · replace hw := hw.1 c52
    exact hw.elim
  · replace hw := hw.2 c52
    refine v_iload_n X 0 rfl (gD D_J8_newLength_cabcc_0 9 rfl) rfl ?_
    refine v_ldc X 2147483639 lk_coRJ8_200 (gD D_J8_newLength_cabcc_0 10 rfl) ?_
    refine v_icmp_gt X 21 (gD D_J8_newLength_cabcc_0 11 rfl) (by decide) (fun c53 => ?_) (fun c53 => ?_)
    · replace hw := hw.1 c53
      exact hw.elim
    · replace hw := hw.2 c53
      refine v_iload_n X 0 rfl (gD D_J8_newLength_cabcc_0 12 rfl) rfl ?_
      exact v_iret X hr hw (gD D_J8_newLength_cabcc_0 13 rfl)
set_option maxRecDepth 100000 in
set_option maxHeartbeats 4000000 in
theorem c_Jx4a65c_elementData_915e3 {l : Launch} {G : GX} (htr : l.stackTraces = false) {σ : St} {a0 : Nat} {x1 : Int32} {Q : Option Nat → St → Prop} (ht : tvOk σ [(some a0, 30)]) (hw : w_Jx4a65c_elementData_915e3 a0 x1 σ Q) : MR l G 1 σ yJx4a65c_elementData_915e3 cJx4a65c_elementData_915e3 2 (some (.object "java/lang/Object")) 0 0 0 [va_rf (some a0), .int x1] 0 Q := by
  unfold w_Jx4a65c_elementData_915e3 at hw
  refine m_start RJx4a65c (by decide) htr ht (Nat.le_of_ble_eq_true rfl) rfl (lv := [(0, va_rf (some a0)), (1, .int x1)]) (d := 1) (fun p e s m args below meth c X hr hin => ?_)
  refine v_aload_n X 0 rfl (gD D_Jx4a65c_elementData_915e3_0 0 rfl) rfl ?_
  refine v_getR X RJx4a65c TJx4a65c 3 30 13 (by decide) rfl gin13 1 1301 RJx4a65c (Or.inl rfl) 0 50 rfl rfl rfl (by decide) lk_fRJx4a65c_9 (gD D_Jx4a65c_elementData_915e3_0 1 rfl) (fun o51 eo51 => ?_)
  replace hw := hw o51 eo51
  refine v_iload_n X 1 rfl (gD D_Jx4a65c_elementData_915e3_0 2 rfl) rfl ?_
  obtain ⟨a52, rfl, hw⟩ := hw
  obtain ⟨h53, hw⟩ := hw
  refine v_aaldO X 0 rfl h53 (gD D_Jx4a65c_elementData_915e3_0 3 rfl) (fun o54 eo54 => ?_)
  replace hw := hw o54 eo54
  exact v_aret X hr (Or.inl ⟨_, rfl⟩) (Or.inl rfl) hw (gD D_Jx4a65c_elementData_915e3_0 4 rfl)
set_option maxRecDepth 100000 in
set_option maxHeartbeats 4000000 in
theorem t_Jx4a65c_fastRemove_b59b0_34 {p : Program} {l : Launch} {e : Env} {s : State} {m : MethodId} {args : Array Value} {below : List Frame} {meth : Method} {c : Code} {G : GX} {σ0 : St} {mc ms : Nat} {Q : St → Prop} (X : VC p l (rmD 0 mc ms) s m args meth c G 0 mc ms 4 RJx4a65c cJx4a65c_fastRemove_b59b0) (hr : meth.sig.returnType = none) (hin : meth.name = yJx4a65c_fastRemove_b59b0.name) (htr : l.stackTraces = false) : ∀ (a0 : Nat) (a1 : Nat) (x3 : Int32) (σ : St), w_Jx4a65c_fastRemove_b59b0_34 Q  a0 a1 x3 σ → V p l e (rmD 0 mc ms) s m args below meth c (MQ below (va_Qv Q (gB G 1 σ0) (GA G)) args s mc ms (GA G)) G 1 σ0 mc ms 4 σ 0 0 [(some a0, 30), (some a1, 50)] 34 [(0, va_rf (some a0)), (1, va_rf (some a1)), (3, .int x3)] [] := by
  intro a0 a1 x3 σ hw
  unfold w_Jx4a65c_fastRemove_b59b0_34 at hw
  refine v_aload_n X 1 rfl (gD D_Jx4a65c_fastRemove_b59b0_0 24 rfl) rfl ?_
  refine v_aload_n X 0 rfl (gD D_Jx4a65c_fastRemove_b59b0_0 25 rfl) rfl ?_
  refine v_iload_n X 2 rfl (gD D_Jx4a65c_fastRemove_b59b0_0 26 rfl) rfl ?_
  refine v_dup_x1 X (gD D_Jx4a65c_fastRemove_b59b0_0 27 rfl) rfl (rf_cat _) ?_
  refine v_putI X RJx4a65c TJx4a65c 3 30 13 (by decide) rfl gin13 2 1302 tyJx4a65c tyJx4a65c_ok nmJx4a65c RJx4a65c (Or.inl rfl) 0 rfl .int (int_fit _) rfl (by decide) (Or.inl rfl) lk_fRJx4a65c_48 rfl rfl (gD D_Jx4a65c_fastRemove_b59b0_0 28 rfl) (fun s54 es54 => ?_)
  replace hw := hw s54 es54
  refine v_null X (gD D_Jx4a65c_fastRemove_b59b0_0 29 rfl) ?_
  obtain ⟨h55, hw⟩ := hw
  refine v_aastN X 1 rfl (Or.inl rfl) h55 (gD D_Jx4a65c_fastRemove_b59b0_0 30 rfl) (fun s56 es56 => ?_)
  replace hw := hw s56 es56
  exact v_vret X hr hw (gD D_Jx4a65c_fastRemove_b59b0_0 31 rfl)
set_option maxRecDepth 100000 in
set_option maxHeartbeats 4000000 in
theorem c_Jx4a65c_fastRemove_b59b0 {l : Launch} {G : GX} (htr : l.stackTraces = false) {σ : St} {a0 : Nat} {a1 : Nat} {x2 : Int32} {Q : St → Prop} (ht : tvOk σ [(some a0, 30), (some a1, 50)]) (hw : w_Jx4a65c_fastRemove_b59b0 a0 a1 x2 σ Q) : MV l G 1 σ yJx4a65c_fastRemove_b59b0 cJx4a65c_fastRemove_b59b0 4 0 0 0 [va_rf (some a0), va_rf (some a1), .int x2] Q := by
  unfold w_Jx4a65c_fastRemove_b59b0 at hw
  refine m_start RJx4a65c (by decide) htr ht (Nat.le_of_ble_eq_true rfl) rfl (lv := [(0, va_rf (some a0)), (1, va_rf (some a1)), (2, .int x2)]) (d := 1) (fun p e s m args below meth c X hr hin => ?_)
  refine v_aload_n X 0 rfl (gD D_Jx4a65c_fastRemove_b59b0_0 0 rfl) rfl ?_
  refine v_dup X (gD D_Jx4a65c_fastRemove_b59b0_0 1 rfl) (rf_cat _) ?_
  refine v_getI X RJx4a65c TJx4a65c 3 30 13 (by decide) rfl gin13 0 1300 RJx4a65c (Or.inr lk_sf_Jx4a65c_0_RJx4a65c) 0 rfl rfl (by decide) lk_fRJx4a65c_63 (gD D_Jx4a65c_fastRemove_b59b0_0 2 rfl) ?_
  refine v_iconst X 1 (gD D_Jx4a65c_fastRemove_b59b0_0 3 rfl) (by decide) ?_
  refine v_iadd X (gD D_Jx4a65c_fastRemove_b59b0_0 4 rfl) ?_
  refine v_putI X RJx4a65c TJx4a65c 3 30 13 (by decide) rfl gin13 0 1300 tyJx4a65c tyJx4a65c_ok nmJx4a65c RJx4a65c (Or.inr lk_sf_Jx4a65c_0_RJx4a65c) 0 rfl .int (int_fit _) rfl (by decide) (Or.inl rfl) lk_fRJx4a65c_63 rfl rfl (gD D_Jx4a65c_fastRemove_b59b0_0 5 rfl) (fun s51 es51 => ?_)
  replace hw := hw s51 es51
  refine v_aload_n X 0 rfl (gD D_Jx4a65c_fastRemove_b59b0_0 6 rfl) rfl ?_
  refine v_getI X RJx4a65c TJx4a65c 3 30 13 (by decide) rfl gin13 2 1302 RJx4a65c (Or.inl rfl) 0 rfl rfl (by decide) lk_fRJx4a65c_48 (gD D_Jx4a65c_fastRemove_b59b0_0 7 rfl) ?_
  refine v_iconst X 1 (gD D_Jx4a65c_fastRemove_b59b0_0 8 rfl) (by decide) ?_
  refine v_isub X (gD D_Jx4a65c_fastRemove_b59b0_0 9 rfl) ?_
  refine v_topi (fun x52 ex52 => ?_)
  replace hw := hw x52 ex52
  refine v_dup X (gD D_Jx4a65c_fastRemove_b59b0_0 10 rfl) rfl ?_
  refine v_istore_n X [(3, .int x52), (0, va_rf (some a0)), (1, va_rf (some a1)), (2, .int x2)] (gD D_Jx4a65c_fastRemove_b59b0_0 11 rfl) rfl (by decide) rfl ?_
  refine v_iload_n X 3 rfl (gD D_Jx4a65c_fastRemove_b59b0_0 12 rfl) rfl ?_
  refine v_icmp_le X 34 (gD D_Jx4a65c_fastRemove_b59b0_0 13 rfl) (by decide) (fun c53 => ?_) (fun c53 => ?_)
  · replace hw := hw.1 c53
    exact v_sub [0, 1] [1, 2, 0] rfl rfl (t_Jx4a65c_fastRemove_b59b0_34 X hr hin htr  a0 a1 x52 s51 hw)
  · replace hw := hw.2 c53
    refine v_aload_n X 2 rfl (gD D_Jx4a65c_fastRemove_b59b0_0 14 rfl) rfl ?_
    refine v_iload_n X 3 rfl (gD D_Jx4a65c_fastRemove_b59b0_0 15 rfl) rfl ?_
    refine v_iconst X 1 (gD D_Jx4a65c_fastRemove_b59b0_0 16 rfl) (by decide) ?_
    refine v_iadd X (gD D_Jx4a65c_fastRemove_b59b0_0 17 rfl) ?_
    refine v_aload_n X 2 rfl (gD D_Jx4a65c_fastRemove_b59b0_0 18 rfl) rfl ?_
    refine v_iload_n X 3 rfl (gD D_Jx4a65c_fastRemove_b59b0_0 19 rfl) rfl ?_
    refine v_iload_n X 0 rfl (gD D_Jx4a65c_fastRemove_b59b0_0 20 rfl) rfl ?_
    refine v_iload_n X 3 rfl (gD D_Jx4a65c_fastRemove_b59b0_0 21 rfl) rfl ?_
    refine v_isub X (gD D_Jx4a65c_fastRemove_b59b0_0 22 rfl) ?_
    obtain ⟨h57, h58, h59, h60, h61, h62, h63, hw⟩ := hw
    refine v_cpyQ X 1 1 rfl rfl (Or.inl rfl) h57 h58 h59 h60 h61 h62 h63 lk_mRJx4a65c_112 lk_na_acopy lk_s_acopy lk_n_System (by decide) (gD D_Jx4a65c_fastRemove_b59b0_0 23 rfl) (fun s64 es64 => ?_)
    replace hw := hw s64 es64
    exact v_sub [0, 1] [1, 2, 0] rfl rfl (t_Jx4a65c_fastRemove_b59b0_34 X hr hin htr  a0 a1 x52 s64 hw)
set_option maxRecDepth 100000 in
set_option maxHeartbeats 4000000 in
theorem c_Jx4a65c_isEmpty_aae02 {l : Launch} {G : GX} (htr : l.stackTraces = false) {σ : St} {a0 : Nat} {Q : Int32 → St → Prop} (ht : tvOk σ [(some a0, 30)]) (hw : w_Jx4a65c_isEmpty_aae02 a0 σ Q) : MI l G 1 σ yJx4a65c_isEmpty_aae02 cJx4a65c_isEmpty_aae02 1 (some .boolean) 0 0 0 [va_rf (some a0)] Q := by
  unfold w_Jx4a65c_isEmpty_aae02 at hw
  refine m_start RJx4a65c (by decide) htr ht (Nat.le_of_ble_eq_true rfl) rfl (lv := [(0, va_rf (some a0))]) (d := 1) (fun p e s m args below meth c X hr hin => ?_)
  refine v_aload_n X 0 rfl (gD D_Jx4a65c_isEmpty_aae02_0 0 rfl) rfl ?_
  refine v_getI X RJx4a65c TJx4a65c 3 30 13 (by decide) rfl gin13 2 1302 RJx4a65c (Or.inl rfl) 0 rfl rfl (by decide) lk_fRJx4a65c_48 (gD D_Jx4a65c_isEmpty_aae02_0 1 rfl) ?_
  refine v_if_ne X 11 (gD D_Jx4a65c_isEmpty_aae02_0 2 rfl) (by decide) (fun c51 => ?_) (fun c51 => ?_)
  · replace hw := hw.1 c51
    refine v_iconst X 0 (gD D_Jx4a65c_isEmpty_aae02_0 5 rfl) (by decide) ?_
    exact v_zret X hr (by decide) hw (gD D_Jx4a65c_isEmpty_aae02_0 6 rfl)
  · replace hw := hw.2 c51
    refine v_iconst X 1 (gD D_Jx4a65c_isEmpty_aae02_0 3 rfl) (by decide) ?_
    refine v_goto X 12 (gD D_Jx4a65c_isEmpty_aae02_0 4 rfl) (by decide) ?_
    exact v_zret X hr (by decide) hw (gD D_Jx4a65c_isEmpty_aae02_0 6 rfl)
set_option maxRecDepth 100000 in
set_option maxHeartbeats 4000000 in
theorem c_Jx4a65c_rangeCheckForAdd_d00df {l : Launch} {G : GX} (htr : l.stackTraces = false) {k n : Nat} {σ : St} {a0 : Nat} {x1 : Int32} {Q : St → Prop} (ht : tvOk σ [(some a0, 30)]) (hw : w_Jx4a65c_rangeCheckForAdd_d00df k n a0 x1 σ Q) : MV l G 1 σ yJx4a65c_rangeCheckForAdd_d00df cJx4a65c_rangeCheckForAdd_d00df 2 0 k n [va_rf (some a0), .int x1] Q := by
  unfold w_Jx4a65c_rangeCheckForAdd_d00df at hw
  refine m_start RJx4a65c (by decide) htr ht (Nat.le_of_ble_eq_true rfl) rfl (lv := [(0, va_rf (some a0)), (1, .int x1)]) (d := 1) (fun p e s m args below meth c X hr hin => ?_)
  refine v_iload_n X 1 rfl (gD D_Jx4a65c_rangeCheckForAdd_d00df_0 0 rfl) rfl ?_
  refine v_aload_n X 0 rfl (gD D_Jx4a65c_rangeCheckForAdd_d00df_0 1 rfl) rfl ?_
  refine v_getI X RJx4a65c TJx4a65c 3 30 13 (by decide) rfl gin13 2 1302 RJx4a65c (Or.inl rfl) 0 rfl rfl (by decide) lk_fRJx4a65c_48 (gD D_Jx4a65c_rangeCheckForAdd_d00df_0 2 rfl) ?_
  refine v_icmp_gt X 12 (gD D_Jx4a65c_rangeCheckForAdd_d00df_0 3 rfl) (by decide) (fun c51 => ?_) (fun c51 => ?_)
  · replace hw := hw.1 c51
    exact hw.elim
  · replace hw := hw.2 c51
    refine v_iload_n X 1 rfl (gD D_Jx4a65c_rangeCheckForAdd_d00df_0 4 rfl) rfl ?_
    refine v_if_ge X 25 (gD D_Jx4a65c_rangeCheckForAdd_d00df_0 5 rfl) (by decide) (fun c52 => ?_) (fun c52 => ?_)
    · replace hw := hw.1 c52
      exact v_vret X hr hw (gD D_Jx4a65c_rangeCheckForAdd_d00df_0 13 rfl)
    · replace hw := hw.2 c52
      exact hw.elim
set_option maxRecDepth 100000 in
set_option maxHeartbeats 4000000 in
theorem c_Jx4a65c_size_8abf5 {l : Launch} {G : GX} (htr : l.stackTraces = false) {σ : St} {a0 : Nat} {Q : Int32 → St → Prop} (ht : tvOk σ [(some a0, 30)]) (hw : w_Jx4a65c_size_8abf5 a0 σ Q) : MI l G 1 σ yJx4a65c_size_8abf5 cJx4a65c_size_8abf5 1 (some .int) 0 0 0 [va_rf (some a0)] Q := by
  unfold w_Jx4a65c_size_8abf5 at hw
  refine m_start RJx4a65c (by decide) htr ht (Nat.le_of_ble_eq_true rfl) rfl (lv := [(0, va_rf (some a0))]) (d := 1) (fun p e s m args below meth c X hr hin => ?_)
  refine v_aload_n X 0 rfl (gD D_Jx4a65c_size_8abf5_0 0 rfl) rfl ?_
  refine v_getI X RJx4a65c TJx4a65c 3 30 13 (by decide) rfl gin13 2 1302 RJx4a65c (Or.inl rfl) 0 rfl rfl (by decide) lk_fRJx4a65c_48 (gD D_Jx4a65c_size_8abf5_0 1 rfl) ?_
  exact v_iret X hr hw (gD D_Jx4a65c_size_8abf5_0 2 rfl)
set_option maxRecDepth 100000 in
set_option maxHeartbeats 4000000 in
theorem c_Jxa1e45_init_da8c8 {l : Launch} {G : GX} (htr : l.stackTraces = false) {σ : St} {a0 : Nat} {Q : St → Prop} (ht : tvOk σ [(some a0, 30)]) (hw : w_Jxa1e45_init_da8c8 a0 σ Q) : MV l G 1 σ yJxa1e45_init_da8c8 cJxa1e45_init_da8c8 1 0 0 0 [va_rf (some a0)] Q := by
  unfold w_Jxa1e45_init_da8c8 at hw
  refine m_start RJxa1e45 (by decide) htr ht (Nat.le_of_ble_eq_true rfl) rfl (lv := [(0, va_rf (some a0))]) (d := 1) (fun p e s m args below meth c X hr hin => ?_)
  refine v_aload_n X 0 rfl (gD D_Jxa1e45_init_da8c8_0 0 rfl) rfl ?_
  refine v_objInit X lk_mRJxa1e45_1 lk_i_objinit lk_c_objinit (by decide) (gD D_Jxa1e45_init_da8c8_0 1 rfl) ?_
  exact v_vret X hr hw (gD D_Jxa1e45_init_da8c8_0 2 rfl)
set_option maxRecDepth 100000 in
set_option maxHeartbeats 4000000 in
theorem c_J15_checkIndex_7cf53 {l : Launch} {G : GX} (htr : l.stackTraces = false) {σ : St} {x0 : Int32} {x1 : Int32} {Q : Int32 → St → Prop} (ht : tvOk σ []) (hw : w_J15_checkIndex_7cf53 x0 x1 σ Q) : MI l G 1 σ yJ15_checkIndex_7cf53 cJ15_checkIndex_7cf53 2 (some .int) 1 0 0 [.int x0, .int x1] Q := by
  unfold w_J15_checkIndex_7cf53 at hw
  refine m_start RJ15 (by decide) htr ht (Nat.le_of_ble_eq_true rfl) rfl (lv := [(0, .int x0), (1, .int x1)]) (d := 1) (fun p e s m args below meth c X hr hin => ?_)
  refine v_iload_n X 0 rfl (gD D_J15_checkIndex_7cf53_0 0 rfl) rfl ?_
  refine v_iload_n X 1 rfl (gD D_J15_checkIndex_7cf53_0 1 rfl) rfl ?_
  refine v_null X (gD D_J15_checkIndex_7cf53_0 2 rfl) ?_
  refine v_callTi X (As := [.int x0, .int x1, va_rf none]) (rest := []) (nA := 3) 0 0 0 0 (fun ht => c_J3_checkIndex_8e157 htr (ht.sub [] rfl) hw) (Or.inl rfl) lk_sRJ15_105 (by decide +kernel) rfl rfl (by decide) (by decide) (by decide) rfl rfl (gD D_J15_checkIndex_7cf53_0 3 rfl) (fun x51 s52 hq _ _ => ?_)
  replace hw := hq
  clear hq
  exact v_iret X hr hw (gD D_J15_checkIndex_7cf53_0 4 rfl)
set_option maxRecDepth 100000 in
set_option maxHeartbeats 4000000 in
theorem c_J7_copyOf_1904c {l : Launch} {G : GX} (htr : l.stackTraces = false) {k n : Nat} {σ : St} {a0 : Nat} {x1 : Int32} {Q : Option Nat → St → Prop} (ht : tvOk σ [(some a0, 50)]) (hw : w_J7_copyOf_1904c k n a0 x1 σ Q) : MR l G 1 σ yJ7_copyOf_1904c cJ7_copyOf_1904c 2 (some (.array (.object "java/lang/Object"))) 1 k n [va_rf (some a0), .int x1] 50 Q := by
  unfold w_J7_copyOf_1904c at hw
  refine m_start RJ7 (by decide) htr ht (Nat.le_of_ble_eq_true rfl) rfl (lv := [(0, va_rf (some a0)), (1, .int x1)]) (d := 1) (fun p e s m args below meth c X hr hin => ?_)
  refine v_aload_n X 0 rfl (gD D_J7_copyOf_1904c_0 0 rfl) rfl ?_
  refine v_iload_n X 1 rfl (gD D_J7_copyOf_1904c_0 1 rfl) rfl ?_
  refine v_aload_n X 0 rfl (gD D_J7_copyOf_1904c_0 2 rfl) rfl ?_
  refine v_getC X 0 rfl lk_mRJ7_86 (by simp [gNB]) lk_e_getClass lk_i_getClass lk_na_getClass (by simp [rf_cat, ct_i]) (gD D_J7_copyOf_1904c_0 3 rfl) (fun a51 ha51 => ?_)
  replace hw := hw a51 ha51
  obtain ⟨k54, n55, k56, n57, h58, h59, hw⟩ := hw
  refine v_callSq X (As := [va_rf (some a0), .int x1, va_rf (some a51)]) (rest := []) (nA := 3) k54 n55 k56 n57 (fun ht => c_J7_copyOf_6403c htr (ht.sub [0] rfl) hw) (Or.inl rfl) (by decide) lk_sRJ7_300 (by decide +kernel) rfl rfl (by decide) (by decide) (by decide) h58 h59 (gD D_J7_copyOf_1904c_0 4 rfl) (fun o52 s53 hq _ _ => ?_)
  replace hw := hq
  clear hq
  exact v_aret X hr (Or.inr ⟨_, rfl⟩) (Or.inr (Or.inr ⟨0, rfl⟩)) hw (gD D_J7_copyOf_1904c_0 5 rfl)
set_option maxRecDepth 100000 in
set_option maxHeartbeats 4000000 in
theorem c_Jxc12de_init_da8c8 {l : Launch} {G : GX} (htr : l.stackTraces = false) {σ : St} {a0 : Nat} {Q : St → Prop} (ht : tvOk σ [(some a0, 30)]) (hw : w_Jxc12de_init_da8c8 a0 σ Q) : MV l G 1 σ yJxc12de_init_da8c8 cJxc12de_init_da8c8 1 1 0 0 [va_rf (some a0)] Q := by
  unfold w_Jxc12de_init_da8c8 at hw
  refine m_start RJxc12de (by decide) htr ht (Nat.le_of_ble_eq_true rfl) rfl (lv := [(0, va_rf (some a0))]) (d := 1) (fun p e s m args below meth c X hr hin => ?_)
  refine v_aload_n X 0 rfl (gD D_Jxc12de_init_da8c8_0 0 rfl) rfl ?_
  refine v_callIv X (As := []) (rest := []) (nA := 0) 0 0 0 0 (fun ht => c_Jxa1e45_init_da8c8 htr (ht.sub [0] rfl) hw) (Or.inl rfl) lk_c_Jxa1e45_init_da8c8 lk_n_RJxa1e45 lk_mRJxc12de_1 lk_i_Jxa1e45_init_da8c8 rfl (by decide +kernel) rfl rfl (by decide) (by decide) (by decide) rfl rfl (gD D_Jxc12de_init_da8c8_0 1 rfl) (fun s52 hq _ _ => ?_)
  replace hw := hq
  clear hq
  refine v_aload_n X 0 rfl (gD D_Jxc12de_init_da8c8_0 2 rfl) rfl ?_
  refine v_iconst X 0 (gD D_Jxc12de_init_da8c8_0 3 rfl) (by decide) ?_
  refine v_putI X RJx4a65c TJx4a65c 3 30 13 (by decide) rfl gin13 0 1300 tyJx4a65c tyJx4a65c_ok nmJx4a65c RJxc12de (Or.inl rfl) 0 rfl .int (int_fit _) rfl (by decide) (Or.inl rfl) lk_fRJxc12de_7 rfl rfl (gD D_Jxc12de_init_da8c8_0 4 rfl) (fun s53 es53 => ?_)
  replace hw := hw s53 es53
  exact v_vret X hr hw (gD D_Jxc12de_init_da8c8_0 5 rfl)
set_option maxRecDepth 100000 in
set_option maxHeartbeats 4000000 in
theorem c_Jx4a65c_get_915e3 {l : Launch} {G : GX} (htr : l.stackTraces = false) {σ : St} {a0 : Nat} {x1 : Int32} {Q : Option Nat → St → Prop} (ht : tvOk σ [(some a0, 30)]) (hw : w_Jx4a65c_get_915e3 a0 x1 σ Q) : MR l G 1 σ yJx4a65c_get_915e3 cJx4a65c_get_915e3 2 (some (.object "java/lang/Object")) 2 0 0 [va_rf (some a0), .int x1] 0 Q := by
  unfold w_Jx4a65c_get_915e3 at hw
  refine m_start RJx4a65c (by decide) htr ht (Nat.le_of_ble_eq_true rfl) rfl (lv := [(0, va_rf (some a0)), (1, .int x1)]) (d := 1) (fun p e s m args below meth c X hr hin => ?_)
  refine v_iload_n X 1 rfl (gD D_Jx4a65c_get_915e3_0 0 rfl) rfl ?_
  refine v_aload_n X 0 rfl (gD D_Jx4a65c_get_915e3_0 1 rfl) rfl ?_
  refine v_getI X RJx4a65c TJx4a65c 3 30 13 (by decide) rfl gin13 2 1302 RJx4a65c (Or.inl rfl) 0 rfl rfl (by decide) lk_fRJx4a65c_48 (gD D_Jx4a65c_get_915e3_0 2 rfl) ?_
  refine v_callTi X (As := [.int x1, .int (sI σ 1302 a0)]) (rest := []) (nA := 2) 0 0 0 0 (fun ht => c_J15_checkIndex_7cf53 htr (ht.sub [] rfl) hw) (Or.inl rfl) lk_sRJx4a65c_118 (by decide +kernel) rfl rfl (by decide) (by decide) (by decide) rfl rfl (gD D_Jx4a65c_get_915e3_0 3 rfl) (fun x51 s52 hq _ _ => ?_)
  replace hw := hq
  clear hq
  refine v_pop X (gD D_Jx4a65c_get_915e3_0 4 rfl) rfl ?_
  refine v_aload_n X 0 rfl (gD D_Jx4a65c_get_915e3_0 5 rfl) rfl ?_
  refine v_iload_n X 1 rfl (gD D_Jx4a65c_get_915e3_0 6 rfl) rfl ?_
  refine v_callVu X (As := [.int x1]) (rest := []) (nA := 1) 0 0 0 0 (fun ht => c_Jx4a65c_elementData_915e3 htr (ht.sub [0] rfl) hw) (Or.inl rfl) 0 (κ := 30) rfl (by decide) (rfl : gCl[13]? = some (RJx4a65c, TJx4a65c, 3)) lk_vRJx4a65c_123 (by decide +kernel) rfl rfl (by decide) (by decide) (by decide) rfl rfl (gD D_Jx4a65c_get_915e3_0 7 rfl) (fun o53 s54 hq _ _ => ?_)
  replace hw := hq
  clear hq
  exact v_aret X hr (Or.inl ⟨_, rfl⟩) (Or.inl rfl) hw (gD D_Jx4a65c_get_915e3_0 8 rfl)
set_option maxRecDepth 100000 in
set_option maxHeartbeats 4000000 in
theorem t_Jx4a65c_grow_92f84_20 {p : Program} {l : Launch} {e : Env} {s : State} {m : MethodId} {args : Array Value} {below : List Frame} {meth : Method} {c : Code} {G : GX} {σ0 : St} {mc ms : Nat} {Q : Option Nat → St → Prop} (X : VC p l (rmD 2 mc ms) s m args meth c G 2 mc ms 4 RJx4a65c cJx4a65c_grow_92f84) (hr : meth.sig.returnType = (some (.array (.object "java/lang/Object")))) (hin : meth.name = yJx4a65c_grow_92f84.name) (htr : l.stackTraces = false) : ∀ (a0 : Nat) (x1 : Int32) (x2 : Int32) (σ : St) (k n : Nat), w_Jx4a65c_grow_92f84_20 Q  a0 x1 x2 σ k n → V p l e (rmD 2 mc ms) s m args below meth c (MQ below (va_Qq (fun r τ => Q r τ ∧ rOk 50 r τ) (gB G 1 σ0) (GA G)) args s mc ms (GA G)) G 1 σ0 mc ms 4 σ k n [(some a0, 30)] 20 [(0, va_rf (some a0)), (1, .int x1), (2, .int x2)] [] := by
  intro a0 x1 x2 σ k n hw
  unfold w_Jx4a65c_grow_92f84_20 at hw
  refine v_iload_n X 2 rfl (gD D_Jx4a65c_grow_92f84_0 10 rfl) rfl ?_
  refine v_iload_n X 1 rfl (gD D_Jx4a65c_grow_92f84_0 11 rfl) rfl ?_
  refine v_iload_n X 2 rfl (gD D_Jx4a65c_grow_92f84_0 12 rfl) rfl ?_
  refine v_isub X (gD D_Jx4a65c_grow_92f84_0 13 rfl) ?_
  refine v_iload_n X 2 rfl (gD D_Jx4a65c_grow_92f84_0 14 rfl) rfl ?_
  refine v_iconst X 1 (gD D_Jx4a65c_grow_92f84_0 15 rfl) (by decide) ?_
  refine v_ishr X (gD D_Jx4a65c_grow_92f84_0 16 rfl) ?_
  refine v_callTi X (As := [.int x2, .int (x1 - x2), .int (x2 >>> (1 &&& 31))]) (rest := []) (nA := 3) 0 0 k n (fun ht => c_J8_newLength_cabcc htr (ht.sub [] rfl) hw) (Or.inl rfl) lk_sRJx4a65c_73 (by decide +kernel) rfl rfl (by decide) (by decide) (by decide) rfl rfl (gD D_Jx4a65c_grow_92f84_0 17 rfl) (fun x55 s56 hq _ _ => ?_)
  replace hw := hq
  clear hq
  refine v_istore_n X [(3, .int x55), (0, va_rf (some a0)), (1, .int x1), (2, .int x2)] (gD D_Jx4a65c_grow_92f84_0 18 rfl) rfl (by decide) rfl ?_
  refine v_aload_n X 1 rfl (gD D_Jx4a65c_grow_92f84_0 19 rfl) rfl ?_
  refine v_aload_n X 1 rfl (gD D_Jx4a65c_grow_92f84_0 20 rfl) rfl ?_
  refine v_getR X RJx4a65c TJx4a65c 3 30 13 (by decide) rfl gin13 1 1301 RJx4a65c (Or.inl rfl) 0 50 rfl rfl rfl (by decide) lk_fRJx4a65c_9 (gD D_Jx4a65c_grow_92f84_0 21 rfl) (fun o57 eo57 => ?_)
  replace hw := hw o57 eo57
  refine v_iload_n X 0 rfl (gD D_Jx4a65c_grow_92f84_0 22 rfl) rfl ?_
  obtain ⟨a58, rfl, hw⟩ := hw
  obtain ⟨k61, n62, k63, n64, h65, h66, hw⟩ := hw
  refine v_callTq X (As := [va_rf (some a58), .int x55]) (rest := [va_rf (some a0)]) (nA := 2) k61 n62 k63 n64 (fun ht => c_J7_copyOf_1904c htr (ht.sub [0] rfl) hw) (Or.inl rfl) (by decide) lk_sRJx4a65c_66 (by decide +kernel) rfl rfl (by simp [rf_cat, ct_i]) (by decide) (by decide) h65 h66 (gD D_Jx4a65c_grow_92f84_0 23 rfl) (fun o59 s60 hq _ _ => ?_)
  replace hw := hq
  clear hq
  refine v_dup_x1 X (gD D_Jx4a65c_grow_92f84_0 24 rfl) (rf_cat _) (rf_cat _) ?_
  refine v_putR X RJx4a65c TJx4a65c 3 30 13 (by decide) rfl gin13 1 1301 tyJx4a65c tyJx4a65c_ok nmJx4a65c RJx4a65c (Or.inl rfl) 2 rfl (fun b hb => ⟨0, by rw [← hb]; rfl⟩) rfl (by decide) (Or.inl rfl) lk_fRJx4a65c_9 rfl rfl rfl (gD D_Jx4a65c_grow_92f84_0 25 rfl) (fun s67 es67 => ?_)
  replace hw := hw s67 es67
  exact v_aret X hr (Or.inr ⟨_, rfl⟩) (Or.inr (Or.inr ⟨0, rfl⟩)) hw (gD D_Jx4a65c_grow_92f84_0 26 rfl)
set_option maxRecDepth 100000 in
set_option maxHeartbeats 4000000 in
theorem c_Jx4a65c_grow_92f84 {l : Launch} {G : GX} (htr : l.stackTraces = false) {k n : Nat} {σ : St} {a0 : Nat} {x1 : Int32} {Q : Option Nat → St → Prop} (ht : tvOk σ [(some a0, 30)]) (hw : w_Jx4a65c_grow_92f84 k n a0 x1 σ Q) : MR l G 1 σ yJx4a65c_grow_92f84 cJx4a65c_grow_92f84 4 (some (.array (.object "java/lang/Object"))) 2 k n [va_rf (some a0), .int x1] 50 Q := by
  unfold w_Jx4a65c_grow_92f84 at hw
  refine m_start RJx4a65c (by decide) htr ht (Nat.le_of_ble_eq_true rfl) rfl (lv := [(0, va_rf (some a0)), (1, .int x1)]) (d := 1) (fun p e s m args below meth c X hr hin => ?_)
  refine v_aload_n X 0 rfl (gD D_Jx4a65c_grow_92f84_0 0 rfl) rfl ?_
  refine v_getR X RJx4a65c TJx4a65c 3 30 13 (by decide) rfl gin13 1 1301 RJx4a65c (Or.inl rfl) 0 50 rfl rfl rfl (by decide) lk_fRJx4a65c_9 (gD D_Jx4a65c_grow_92f84_0 1 rfl) (fun o51 eo51 => ?_)
  replace hw := hw o51 eo51
  obtain ⟨a52, rfl, hw⟩ := hw
  refine v_alen X 0 rfl (by decide) (gD D_Jx4a65c_grow_92f84_0 2 rfl) ?_
  refine v_topi (fun x53 ex53 => ?_)
  replace hw := hw x53 ex53
  refine v_istore_n X [(2, .int x53), (0, va_rf (some a0)), (1, .int x1)] (gD D_Jx4a65c_grow_92f84_0 3 rfl) rfl (by decide) rfl ?_
  refine v_iload_n X 0 rfl (gD D_Jx4a65c_grow_92f84_0 4 rfl) rfl ?_
  refine v_if_gt X 20 (gD D_Jx4a65c_grow_92f84_0 5 rfl) (by decide) (fun c54 => ?_) (fun c54 => ?_)
  · replace hw := hw.1 c54
    exact v_sub [1] [1, 2, 0] rfl rfl (t_Jx4a65c_grow_92f84_20 X hr hin htr  a0 x1 x53 σ k n hw)
  · replace hw := hw.2 c54
    refine v_aload_n X 1 rfl (gD D_Jx4a65c_grow_92f84_0 6 rfl) rfl ?_
    refine v_getR X RJx4a65c TJx4a65c 3 30 13 (by decide) rfl gin13 1 1301 RJx4a65c (Or.inl rfl) 1 50 rfl rfl rfl (by decide) lk_fRJx4a65c_9 (gD D_Jx4a65c_grow_92f84_0 7 rfl) (fun o68 eo68 => ?_)
    replace hw := hw o68 eo68
    refine v_gets X (ref := "") lk_gsRJx4a65c_39 (gD D_Jx4a65c_grow_92f84_0 8 rfl) (fun a69 ha69 => ?_)
    replace hw := hw a69 ha69
    refine v_acmp_eq X 45 (gD D_Jx4a65c_grow_92f84_0 9 rfl) (by decide) (fun c70 => ?_) (fun c70 => ?_)
    · replace hw := hw.1 c70
      refine v_aload_n X 1 rfl (gD D_Jx4a65c_grow_92f84_0 27 rfl) rfl ?_
      refine v_bipush X 10 (gD D_Jx4a65c_grow_92f84_0 28 rfl) (by decide) ?_
      refine v_iload_n X 2 rfl (gD D_Jx4a65c_grow_92f84_0 29 rfl) rfl ?_
      refine v_mmax X lk_mRJx4a65c_79 lk_s_math_max lk_n_math lk_c_math_max (by simp [rf_cat, ct_i]) (gD D_Jx4a65c_grow_92f84_0 30 rfl) ?_
      obtain ⟨h71, h72, hw⟩ := hw
      obtain ⟨k73, n74, h75, h76, hw⟩ := hw
      refine v_newQ X (C := "java/lang/Object") 50 (by decide) rfl (List.mem_of_getElem? (i := 3) rfl) lk_kRJx4a65c_7 h71 h72 k73 n74 h75 h76 (gD D_Jx4a65c_grow_92f84_0 31 rfl) (fun a77 s78 ha77 es78 => ?_)
      replace hw := hw a77 s78 ha77 es78
      refine v_dup_x1 X (gD D_Jx4a65c_grow_92f84_0 32 rfl) (rf_cat _) (rf_cat _) ?_
      refine v_putR X RJx4a65c TJx4a65c 3 30 13 (by decide) rfl gin13 1 1301 tyJx4a65c tyJx4a65c_ok nmJx4a65c RJx4a65c (Or.inl rfl) 4 rfl (fun b hb => ⟨0, by rw [← hb]; rfl⟩) rfl (by decide) (Or.inl rfl) lk_fRJx4a65c_9 rfl rfl rfl (gD D_Jx4a65c_grow_92f84_0 33 rfl) (fun s79 es79 => ?_)
      replace hw := hw s79 es79
      exact v_aret X hr (Or.inr ⟨_, rfl⟩) (Or.inr (Or.inr ⟨0, rfl⟩)) hw (gD D_Jx4a65c_grow_92f84_0 34 rfl)
    · replace hw := hw.2 c70
      exact v_sub [3] [1, 2, 0] rfl rfl (t_Jx4a65c_grow_92f84_20 X hr hin htr  a0 x1 x53 σ k n hw)
set_option maxRecDepth 100000 in
set_option maxHeartbeats 4000000 in
theorem c_Jx4a65c_init_da8c8 {l : Launch} {G : GX} (htr : l.stackTraces = false) {σ : St} {a0 : Nat} {Q : St → Prop} (ht : tvOk σ [(some a0, 30)]) (hw : w_Jx4a65c_init_da8c8 a0 σ Q) : MV l G 1 σ yJx4a65c_init_da8c8 cJx4a65c_init_da8c8 1 2 0 0 [va_rf (some a0)] Q := by
  unfold w_Jx4a65c_init_da8c8 at hw
  refine m_start RJx4a65c (by decide) htr ht (Nat.le_of_ble_eq_true rfl) rfl (lv := [(0, va_rf (some a0))]) (d := 1) (fun p e s m args below meth c X hr hin => ?_)
  refine v_aload_n X 0 rfl (gD D_Jx4a65c_init_da8c8_0 0 rfl) rfl ?_
  refine v_callIv X (As := []) (rest := []) (nA := 0) 0 0 0 0 (fun ht => c_Jxc12de_init_da8c8 htr (ht.sub [0] rfl) hw) (Or.inl rfl) lk_c_Jxc12de_init_da8c8 lk_n_RJxc12de lk_mRJx4a65c_1 lk_i_Jxc12de_init_da8c8 rfl (by decide +kernel) rfl rfl (by decide) (by decide) (by decide) rfl rfl (gD D_Jx4a65c_init_da8c8_0 1 rfl) (fun s52 hq _ _ => ?_)
  replace hw := hq
  clear hq
  refine v_aload_n X 0 rfl (gD D_Jx4a65c_init_da8c8_0 2 rfl) rfl ?_
  refine v_gets X (ref := "") lk_gsRJx4a65c_39 (gD D_Jx4a65c_init_da8c8_0 3 rfl) (fun a53 ha53 => ?_)
  replace hw := hw a53 ha53
  refine v_putR X RJx4a65c TJx4a65c 3 30 13 (by decide) rfl gin13 1 1301 tyJx4a65c tyJx4a65c_ok nmJx4a65c RJx4a65c (Or.inl rfl) 1 rfl (fun b hb => ⟨0, by rw [← hb]; rfl⟩) rfl (by decide) (Or.inl rfl) lk_fRJx4a65c_9 rfl rfl rfl (gD D_Jx4a65c_init_da8c8_0 4 rfl) (fun s54 es54 => ?_)
  replace hw := hw s54 es54
  exact v_vret X hr hw (gD D_Jx4a65c_init_da8c8_0 5 rfl)
set_option maxRecDepth 100000 in
set_option maxHeartbeats 4000000 in
theorem c_Jx4a65c_remove_915e3 {l : Launch} {G : GX} (htr : l.stackTraces = false) {σ : St} {a0 : Nat} {x1 : Int32} {Q : Option Nat → St → Prop} (ht : tvOk σ [(some a0, 30)]) (hw : w_Jx4a65c_remove_915e3 a0 x1 σ Q) : MR l G 1 σ yJx4a65c_remove_915e3 cJx4a65c_remove_915e3 4 (some (.object "java/lang/Object")) 2 0 0 [va_rf (some a0), .int x1] 0 Q := by
  unfold w_Jx4a65c_remove_915e3 at hw
  refine m_start RJx4a65c (by decide) htr ht (Nat.le_of_ble_eq_true rfl) rfl (lv := [(0, va_rf (some a0)), (1, .int x1)]) (d := 1) (fun p e s m args below meth c X hr hin => ?_)
  refine v_iload_n X 1 rfl (gD D_Jx4a65c_remove_915e3_0 0 rfl) rfl ?_
  refine v_aload_n X 0 rfl (gD D_Jx4a65c_remove_915e3_0 1 rfl) rfl ?_
  refine v_getI X RJx4a65c TJx4a65c 3 30 13 (by decide) rfl gin13 2 1302 RJx4a65c (Or.inl rfl) 0 rfl rfl (by decide) lk_fRJx4a65c_48 (gD D_Jx4a65c_remove_915e3_0 2 rfl) ?_
  refine v_callTi X (As := [.int x1, .int (sI σ 1302 a0)]) (rest := []) (nA := 2) 0 0 0 0 (fun ht => c_J15_checkIndex_7cf53 htr (ht.sub [] rfl) hw) (Or.inl rfl) lk_sRJx4a65c_118 (by decide +kernel) rfl rfl (by decide) (by decide) (by decide) rfl rfl (gD D_Jx4a65c_remove_915e3_0 3 rfl) (fun x51 s52 hq _ _ => ?_)
  replace hw := hq
  clear hq
  refine v_pop X (gD D_Jx4a65c_remove_915e3_0 4 rfl) rfl ?_
  refine v_aload_n X 0 rfl (gD D_Jx4a65c_remove_915e3_0 5 rfl) rfl ?_
  refine v_getR X RJx4a65c TJx4a65c 3 30 13 (by decide) rfl gin13 1 1301 RJx4a65c (Or.inl rfl) 0 50 rfl rfl rfl (by decide) lk_fRJx4a65c_9 (gD D_Jx4a65c_remove_915e3_0 6 rfl) (fun o53 eo53 => ?_)
  replace hw := hw o53 eo53
  refine v_astore_n X [(2, va_rf o53), (0, va_rf (some a0)), (1, .int x1)] (gD D_Jx4a65c_remove_915e3_0 7 rfl) rfl (by decide) rfl ?_
  refine v_aload_n X 0 rfl (gD D_Jx4a65c_remove_915e3_0 8 rfl) rfl ?_
  refine v_iload_n X 2 rfl (gD D_Jx4a65c_remove_915e3_0 9 rfl) rfl ?_
  obtain ⟨a54, rfl, hw⟩ := hw
  obtain ⟨h55, hw⟩ := hw
  refine v_aaldO X 0 rfl h55 (gD D_Jx4a65c_remove_915e3_0 10 rfl) (fun o56 eo56 => ?_)
  replace hw := hw o56 eo56
  refine v_astore_n X [(3, va_rf o56), (2, va_rf (some a54)), (0, va_rf (some a0)), (1, .int x1)] (gD D_Jx4a65c_remove_915e3_0 11 rfl) rfl (by decide) rfl ?_
  refine v_aload_n X 2 rfl (gD D_Jx4a65c_remove_915e3_0 12 rfl) rfl ?_
  refine v_aload_n X 1 rfl (gD D_Jx4a65c_remove_915e3_0 13 rfl) rfl ?_
  refine v_iload_n X 3 rfl (gD D_Jx4a65c_remove_915e3_0 14 rfl) rfl ?_
  refine v_callVv X (As := [va_rf (some a54), .int x1]) (rest := []) (nA := 2) 0 0 0 0 (fun ht => c_Jx4a65c_fastRemove_b59b0 htr (ht.sub [1, 0] rfl) hw) (Or.inl rfl) 1 (κ := 30) rfl (by decide) (rfl : gCl[13]? = some (RJx4a65c, TJx4a65c, 3)) lk_vRJx4a65c_144 (by decide +kernel) rfl rfl (by decide) (by decide) (by decide) rfl rfl (gD D_Jx4a65c_remove_915e3_0 15 rfl) (fun s58 hq _ _ => ?_)
  replace hw := hq
  clear hq
  refine v_aload_n X 0 rfl (gD D_Jx4a65c_remove_915e3_0 16 rfl) rfl ?_
  exact v_aret X hr (Or.inl ⟨_, rfl⟩) (Or.inl rfl) hw (gD D_Jx4a65c_remove_915e3_0 17 rfl)
set_option maxRecDepth 100000 in
set_option maxHeartbeats 4000000 in
theorem c_Jx4a65c_grow_d5877 {l : Launch} {G : GX} (htr : l.stackTraces = false) {k n : Nat} {σ : St} {a0 : Nat} {Q : Option Nat → St → Prop} (ht : tvOk σ [(some a0, 30)]) (hw : w_Jx4a65c_grow_d5877 k n a0 σ Q) : MR l G 1 σ yJx4a65c_grow_d5877 cJx4a65c_grow_d5877 1 (some (.array (.object "java/lang/Object"))) 3 k n [va_rf (some a0)] 50 Q := by
  unfold w_Jx4a65c_grow_d5877 at hw
  refine m_start RJx4a65c (by decide) htr ht (Nat.le_of_ble_eq_true rfl) rfl (lv := [(0, va_rf (some a0))]) (d := 1) (fun p e s m args below meth c X hr hin => ?_)
  refine v_aload_n X 0 rfl (gD D_Jx4a65c_grow_d5877_0 0 rfl) rfl ?_
  refine v_aload_n X 0 rfl (gD D_Jx4a65c_grow_d5877_0 1 rfl) rfl ?_
  refine v_getI X RJx4a65c TJx4a65c 3 30 13 (by decide) rfl gin13 2 1302 RJx4a65c (Or.inl rfl) 0 rfl rfl (by decide) lk_fRJx4a65c_48 (gD D_Jx4a65c_grow_d5877_0 2 rfl) ?_
  refine v_iconst X 1 (gD D_Jx4a65c_grow_d5877_0 3 rfl) (by decide) ?_
  refine v_iadd X (gD D_Jx4a65c_grow_d5877_0 4 rfl) ?_
  obtain ⟨k53, n54, k55, n56, h57, h58, hw⟩ := hw
  refine v_callVq X (As := [.int ((sI σ 1302 a0) + 1)]) (rest := []) (nA := 1) k53 n54 k55 n56 (fun ht => c_Jx4a65c_grow_92f84 htr (ht.sub [0] rfl) hw) (Or.inl rfl) (by decide) 0 (κ := 30) rfl (by decide) (rfl : gCl[13]? = some (RJx4a65c, TJx4a65c, 3)) lk_vRJx4a65c_69 (by decide +kernel) rfl rfl (by decide) (by decide) (by decide) h57 h58 (gD D_Jx4a65c_grow_d5877_0 5 rfl) (fun o51 s52 hq _ _ => ?_)
  replace hw := hq
  clear hq
  exact v_aret X hr (Or.inr ⟨_, rfl⟩) (Or.inr (Or.inr ⟨0, rfl⟩)) hw (gD D_Jx4a65c_grow_d5877_0 6 rfl)
set_option maxRecDepth 100000 in
set_option maxHeartbeats 4000000 in
theorem t_Jx4a65c_add_72be8_11 {p : Program} {l : Launch} {e : Env} {s : State} {m : MethodId} {args : Array Value} {below : List Frame} {meth : Method} {c : Code} {G : GX} {σ0 : St} {mc ms : Nat} {Q : St → Prop} (X : VC p l (rmD 4 mc ms) s m args meth c G 4 mc ms 4 RJx4a65c cJx4a65c_add_72be8) (hr : meth.sig.returnType = none) (hin : meth.name = yJx4a65c_add_72be8.name) (htr : l.stackTraces = false) {κ1 : Nat} (hE1 : isE κ1 = true) : ∀ (a0 : Nat) (a1 : Nat) (o2 : Option Nat) (x3 : Int32) (σ : St) (k n : Nat), w_Jx4a65c_add_72be8_11 Q  a0 a1 o2 x3 σ k n → V p l e (rmD 4 mc ms) s m args below meth c (MQ below (va_Qv Q (gB G 1 σ0) (GA G)) args s mc ms (GA G)) G 1 σ0 mc ms 4 σ k n [(some a0, 30), (some a1, κ1), (o2, 50)] 11 [(0, va_rf (some a0)), (1, va_rf (some a1)), (2, va_rf o2), (3, .int x3)] [] := by
  intro a0 a1 o2 x3 σ k n hw
  unfold w_Jx4a65c_add_72be8_11 at hw
  refine v_aload_n X 2 rfl (gD D_Jx4a65c_add_72be8_0 7 rfl) rfl ?_
  refine v_iload_n X 3 rfl (gD D_Jx4a65c_add_72be8_0 8 rfl) rfl ?_
  refine v_aload_n X 1 rfl (gD D_Jx4a65c_add_72be8_0 9 rfl) rfl ?_
  obtain ⟨a52, rfl, hw⟩ := hw
  obtain ⟨h53, hw⟩ := hw
  refine v_aastO X 2 1 rfl rfl hE1 (Or.inl rfl) h53 (gD D_Jx4a65c_add_72be8_0 10 rfl) (fun s54 es54 => ?_)
  replace hw := hw s54 es54
  refine v_aload_n X 0 rfl (gD D_Jx4a65c_add_72be8_0 11 rfl) rfl ?_
  refine v_iload_n X 3 rfl (gD D_Jx4a65c_add_72be8_0 12 rfl) rfl ?_
  refine v_iconst X 1 (gD D_Jx4a65c_add_72be8_0 13 rfl) (by decide) ?_
  refine v_iadd X (gD D_Jx4a65c_add_72be8_0 14 rfl) ?_
  refine v_putI X RJx4a65c TJx4a65c 3 30 13 (by decide) rfl gin13 2 1302 tyJx4a65c tyJx4a65c_ok nmJx4a65c RJx4a65c (Or.inl rfl) 0 rfl .int (int_fit _) rfl (by decide) (Or.inl rfl) lk_fRJx4a65c_48 rfl rfl (gD D_Jx4a65c_add_72be8_0 15 rfl) (fun s55 es55 => ?_)
  replace hw := hw s55 es55
  exact v_vret X hr hw (gD D_Jx4a65c_add_72be8_0 16 rfl)
set_option maxRecDepth 100000 in
set_option maxHeartbeats 4000000 in
theorem c_Jx4a65c_add_72be8 {l : Launch} {G : GX} (htr : l.stackTraces = false) {κ1 : Nat} (hE1 : isE κ1 = true) {k n : Nat} {σ : St} {a0 : Nat} {a1 : Nat} {a2 : Nat} {x3 : Int32} {Q : St → Prop} (ht : tvOk σ [(some a0, 30), (some a1, κ1), (some a2, 50)]) (hw : w_Jx4a65c_add_72be8 k n a0 a1 a2 x3 σ Q) : MV l G 1 σ yJx4a65c_add_72be8 cJx4a65c_add_72be8 4 4 k n [va_rf (some a0), va_rf (some a1), va_rf (some a2), .int x3] Q := by
  unfold w_Jx4a65c_add_72be8 at hw
  refine m_start RJx4a65c (by decide) htr ht (Nat.le_of_ble_eq_true rfl) rfl (lv := [(0, va_rf (some a0)), (1, va_rf (some a1)), (2, va_rf (some a2)), (3, .int x3)]) (d := 1) (fun p e s m args below meth c X hr hin => ?_)
  refine v_iload_n X 3 rfl (gD D_Jx4a65c_add_72be8_0 0 rfl) rfl ?_
  refine v_aload_n X 2 rfl (gD D_Jx4a65c_add_72be8_0 1 rfl) rfl ?_
  refine v_alen X 2 rfl (by decide) (gD D_Jx4a65c_add_72be8_0 2 rfl) ?_
  refine v_icmp_ne X 11 (gD D_Jx4a65c_add_72be8_0 3 rfl) (by decide) (fun c51 => ?_) (fun c51 => ?_)
  · replace hw := hw.1 c51
    exact v_sub [0, 1, 2] [0, 1, 2, 3] rfl rfl (t_Jx4a65c_add_72be8_11 X hr hin htr hE1  a0 a1 (some a2) x3 σ k n hw)
  · replace hw := hw.2 c51
    refine v_aload_n X 0 rfl (gD D_Jx4a65c_add_72be8_0 4 rfl) rfl ?_
    obtain ⟨k58, n59, k60, n61, h62, h63, hw⟩ := hw
    refine v_callVq X (As := []) (rest := []) (nA := 0) k58 n59 k60 n61 (fun ht => c_Jx4a65c_grow_d5877 htr (ht.sub [0] rfl) hw) (Or.inl rfl) (by decide) 0 (κ := 30) rfl (by decide) (rfl : gCl[13]? = some (RJx4a65c, TJx4a65c, 3)) lk_vRJx4a65c_129 (by decide +kernel) rfl rfl (by decide) (by decide) (by decide) h62 h63 (gD D_Jx4a65c_add_72be8_0 5 rfl) (fun o56 s57 hq _ _ => ?_)
    replace hw := hq
    clear hq
    refine v_astore_n X [(2, va_rf o56), (0, va_rf (some a0)), (1, va_rf (some a1)), (3, .int x3)] (gD D_Jx4a65c_add_72be8_0 6 rfl) rfl (by decide) rfl ?_
    exact v_sub [1, 2, 0] [1, 2, 0, 3] rfl rfl (t_Jx4a65c_add_72be8_11 X hr hin htr hE1  a0 a1 o56 x3 s57 k60 n61 hw)
set_option maxRecDepth 100000 in
set_option maxHeartbeats 4000000 in
theorem t_Jx4a65c_add_7a177_38 {p : Program} {l : Launch} {e : Env} {s : State} {m : MethodId} {args : Array Value} {below : List Frame} {meth : Method} {c : Code} {G : GX} {σ0 : St} {mc ms : Nat} {Q : St → Prop} (X : VC p l (rmD 4 mc ms) s m args meth c G 4 mc ms 5 RJx4a65c cJx4a65c_add_7a177) (hr : meth.sig.returnType = none) (hin : meth.name = yJx4a65c_add_7a177.name) (htr : l.stackTraces = false) {κ1 : Nat} (hE1 : isE κ1 = true) : ∀ (a0 : Nat) (x1 : Int32) (a2 : Nat) (x3 : Int32) (o4 : Option Nat) (σ : St) (k n : Nat), w_Jx4a65c_add_7a177_38 Q  a0 x1 a2 x3 o4 σ k n → V p l e (rmD 4 mc ms) s m args below meth c (MQ below (va_Qv Q (gB G 1 σ0) (GA G)) args s mc ms (GA G)) G 1 σ0 mc ms 5 σ k n [(some a0, 30), (some a2, κ1), (o4, 50)] 38 [(0, va_rf (some a0)), (1, .int x1), (2, va_rf (some a2)), (3, .int x3), (4, va_rf o4)] [] := by
  intro a0 x1 a2 x3 o4 σ k n hw
  unfold w_Jx4a65c_add_7a177_38 at hw
  refine v_aload X 4 rfl (gD D_Jx4a65c_add_7a177_0 22 rfl) ?_
  refine v_iload_n X 1 rfl (gD D_Jx4a65c_add_7a177_0 23 rfl) rfl ?_
  refine v_aload X 4 rfl (gD D_Jx4a65c_add_7a177_0 24 rfl) ?_
  refine v_iload_n X 1 rfl (gD D_Jx4a65c_add_7a177_0 25 rfl) rfl ?_
  refine v_iconst X 1 (gD D_Jx4a65c_add_7a177_0 26 rfl) (by decide) ?_
  refine v_iadd X (gD D_Jx4a65c_add_7a177_0 27 rfl) ?_
  refine v_iload_n X 3 rfl (gD D_Jx4a65c_add_7a177_0 28 rfl) rfl ?_
  refine v_iload_n X 1 rfl (gD D_Jx4a65c_add_7a177_0 29 rfl) rfl ?_
  refine v_isub X (gD D_Jx4a65c_add_7a177_0 30 rfl) ?_
  obtain ⟨a64, rfl, hw⟩ := hw
  obtain ⟨h65, h66, h67, h68, h69, h70, h71, hw⟩ := hw
  refine v_cpyQ X 2 2 rfl rfl (Or.inl rfl) h65 h66 h67 h68 h69 h70 h71 lk_mRJx4a65c_112 lk_na_acopy lk_s_acopy lk_n_System (by decide) (gD D_Jx4a65c_add_7a177_0 31 rfl) (fun s72 es72 => ?_)
  replace hw := hw s72 es72
  refine v_aload X 4 rfl (gD D_Jx4a65c_add_7a177_0 32 rfl) ?_
  refine v_iload_n X 1 rfl (gD D_Jx4a65c_add_7a177_0 33 rfl) rfl ?_
  refine v_aload_n X 2 rfl (gD D_Jx4a65c_add_7a177_0 34 rfl) rfl ?_
  obtain ⟨h73, hw⟩ := hw
  refine v_aastO X 2 1 rfl rfl hE1 (Or.inl rfl) h73 (gD D_Jx4a65c_add_7a177_0 35 rfl) (fun s74 es74 => ?_)
  replace hw := hw s74 es74
  refine v_aload_n X 0 rfl (gD D_Jx4a65c_add_7a177_0 36 rfl) rfl ?_
  refine v_iload_n X 3 rfl (gD D_Jx4a65c_add_7a177_0 37 rfl) rfl ?_
  refine v_iconst X 1 (gD D_Jx4a65c_add_7a177_0 38 rfl) (by decide) ?_
  refine v_iadd X (gD D_Jx4a65c_add_7a177_0 39 rfl) ?_
  refine v_putI X RJx4a65c TJx4a65c 3 30 13 (by decide) rfl gin13 2 1302 tyJx4a65c tyJx4a65c_ok nmJx4a65c RJx4a65c (Or.inl rfl) 0 rfl .int (int_fit _) rfl (by decide) (Or.inl rfl) lk_fRJx4a65c_48 rfl rfl (gD D_Jx4a65c_add_7a177_0 40 rfl) (fun s75 es75 => ?_)
  replace hw := hw s75 es75
  exact v_vret X hr hw (gD D_Jx4a65c_add_7a177_0 41 rfl)
set_option maxRecDepth 100000 in
set_option maxHeartbeats 4000000 in
theorem c_Jx4a65c_add_7a177 {l : Launch} {G : GX} (htr : l.stackTraces = false) {κ1 : Nat} (hE1 : isE κ1 = true) {k n : Nat} {σ : St} {a0 : Nat} {x1 : Int32} {a2 : Nat} {Q : St → Prop} (ht : tvOk σ [(some a0, 30), (some a2, κ1)]) (hw : w_Jx4a65c_add_7a177 k n a0 x1 a2 σ Q) : MV l G 1 σ yJx4a65c_add_7a177 cJx4a65c_add_7a177 5 4 k n [va_rf (some a0), .int x1, va_rf (some a2)] Q := by
  unfold w_Jx4a65c_add_7a177 at hw
  refine m_start RJx4a65c (by decide) htr ht (Nat.le_of_ble_eq_true rfl) rfl (lv := [(0, va_rf (some a0)), (1, .int x1), (2, va_rf (some a2))]) (d := 1) (fun p e s m args below meth c X hr hin => ?_)
  refine v_aload_n X 0 rfl (gD D_Jx4a65c_add_7a177_0 0 rfl) rfl ?_
  refine v_iload_n X 1 rfl (gD D_Jx4a65c_add_7a177_0 1 rfl) rfl ?_
  obtain ⟨k53, n54, k55, n56, h57, h58, hw⟩ := hw
  refine v_callVv X (As := [.int x1]) (rest := []) (nA := 1) k53 n54 k55 n56 (fun ht => c_Jx4a65c_rangeCheckForAdd_d00df htr (ht.sub [0] rfl) hw) (Or.inl rfl) 0 (κ := 30) rfl (by decide) (rfl : gCl[13]? = some (RJx4a65c, TJx4a65c, 3)) lk_vRJx4a65c_135 (by decide +kernel) rfl rfl (by decide) (by decide) (by decide) h57 h58 (gD D_Jx4a65c_add_7a177_0 2 rfl) (fun s52 hq _ _ => ?_)
  replace hw := hq
  clear hq
  refine v_aload_n X 0 rfl (gD D_Jx4a65c_add_7a177_0 3 rfl) rfl ?_
  refine v_dup X (gD D_Jx4a65c_add_7a177_0 4 rfl) (rf_cat _) ?_
  refine v_getI X RJx4a65c TJx4a65c 3 30 13 (by decide) rfl gin13 0 1300 RJx4a65c (Or.inr lk_sf_Jx4a65c_0_RJx4a65c) 0 rfl rfl (by decide) lk_fRJx4a65c_63 (gD D_Jx4a65c_add_7a177_0 5 rfl) ?_
  refine v_iconst X 1 (gD D_Jx4a65c_add_7a177_0 6 rfl) (by decide) ?_
  refine v_iadd X (gD D_Jx4a65c_add_7a177_0 7 rfl) ?_
  refine v_putI X RJx4a65c TJx4a65c 3 30 13 (by decide) rfl gin13 0 1300 tyJx4a65c tyJx4a65c_ok nmJx4a65c RJx4a65c (Or.inr lk_sf_Jx4a65c_0_RJx4a65c) 0 rfl .int (int_fit _) rfl (by decide) (Or.inl rfl) lk_fRJx4a65c_63 rfl rfl (gD D_Jx4a65c_add_7a177_0 8 rfl) (fun s59 es59 => ?_)
  replace hw := hw s59 es59
  refine v_aload_n X 0 rfl (gD D_Jx4a65c_add_7a177_0 9 rfl) rfl ?_
  refine v_getI X RJx4a65c TJx4a65c 3 30 13 (by decide) rfl gin13 2 1302 RJx4a65c (Or.inl rfl) 0 rfl rfl (by decide) lk_fRJx4a65c_48 (gD D_Jx4a65c_add_7a177_0 10 rfl) ?_
  refine v_topi (fun x60 ex60 => ?_)
  replace hw := hw x60 ex60
  refine v_dup X (gD D_Jx4a65c_add_7a177_0 11 rfl) rfl ?_
  refine v_istore_n X [(3, .int x60), (0, va_rf (some a0)), (1, .int x1), (2, va_rf (some a2))] (gD D_Jx4a65c_add_7a177_0 12 rfl) rfl (by decide) rfl ?_
  refine v_aload_n X 1 rfl (gD D_Jx4a65c_add_7a177_0 13 rfl) rfl ?_
  refine v_getR X RJx4a65c TJx4a65c 3 30 13 (by decide) rfl gin13 1 1301 RJx4a65c (Or.inl rfl) 0 50 rfl rfl rfl (by decide) lk_fRJx4a65c_9 (gD D_Jx4a65c_add_7a177_0 14 rfl) (fun o61 eo61 => ?_)
  replace hw := hw o61 eo61
  refine v_dup X (gD D_Jx4a65c_add_7a177_0 15 rfl) (rf_cat _) ?_
  refine v_astore X [(4, va_rf o61), (3, .int x60), (0, va_rf (some a0)), (1, .int x1), (2, va_rf (some a2))] (gD D_Jx4a65c_add_7a177_0 16 rfl) (by decide) rfl ?_
  obtain ⟨a62, rfl, hw⟩ := hw
  refine v_alen X 0 rfl (by decide) (gD D_Jx4a65c_add_7a177_0 17 rfl) ?_
  refine v_icmp_ne X 38 (gD D_Jx4a65c_add_7a177_0 18 rfl) (by decide) (fun c63 => ?_) (fun c63 => ?_)
  · replace hw := hw.1 c63
    exact v_sub [1, 2, 0] [2, 3, 4, 1, 0] rfl rfl (t_Jx4a65c_add_7a177_38 X hr hin htr hE1  a0 x1 a2 x60 (some a62) s59 k55 n56 hw)
  · replace hw := hw.2 c63
    refine v_aload_n X 2 rfl (gD D_Jx4a65c_add_7a177_0 19 rfl) rfl ?_
    obtain ⟨k78, n79, k80, n81, h82, h83, hw⟩ := hw
    refine v_callVq X (As := []) (rest := []) (nA := 0) k78 n79 k80 n81 (fun ht => c_Jx4a65c_grow_d5877 htr (ht.sub [1] rfl) hw) (Or.inl rfl) (by decide) 1 (κ := 30) rfl (by decide) (rfl : gCl[13]? = some (RJx4a65c, TJx4a65c, 3)) lk_vRJx4a65c_129 (by decide +kernel) rfl rfl (by decide) (by decide) (by decide) h82 h83 (gD D_Jx4a65c_add_7a177_0 20 rfl) (fun o76 s77 hq _ _ => ?_)
    replace hw := hq
    clear hq
    refine v_astore X [(4, va_rf o76), (3, .int x60), (0, va_rf (some a0)), (1, .int x1), (2, va_rf (some a2))] (gD D_Jx4a65c_add_7a177_0 21 rfl) (by decide) rfl ?_
    exact v_sub [2, 3, 0] [2, 3, 4, 1, 0] rfl rfl (t_Jx4a65c_add_7a177_38 X hr hin htr hE1  a0 x1 a2 x60 o76 s77 k80 n81 hw)
set_option maxRecDepth 100000 in
set_option maxHeartbeats 4000000 in
theorem c_Jx4a65c_add_9ea2d {l : Launch} {G : GX} (htr : l.stackTraces = false) {κ1 : Nat} (hE1 : isE κ1 = true) {k n : Nat} {σ : St} {a0 : Nat} {a1 : Nat} {Q : Int32 → St → Prop} (ht : tvOk σ [(some a0, 30), (some a1, κ1)]) (hw : w_Jx4a65c_add_9ea2d k n a0 a1 σ Q) : MI l G 1 σ yJx4a65c_add_9ea2d cJx4a65c_add_9ea2d 2 (some .boolean) 5 k n [va_rf (some a0), va_rf (some a1)] Q := by
  unfold w_Jx4a65c_add_9ea2d at hw
  refine m_start RJx4a65c (by decide) htr ht (Nat.le_of_ble_eq_true rfl) rfl (lv := [(0, va_rf (some a0)), (1, va_rf (some a1))]) (d := 1) (fun p e s m args below meth c X hr hin => ?_)
  refine v_aload_n X 0 rfl (gD D_Jx4a65c_add_9ea2d_0 0 rfl) rfl ?_
  refine v_dup X (gD D_Jx4a65c_add_9ea2d_0 1 rfl) (rf_cat _) ?_
  refine v_getI X RJx4a65c TJx4a65c 3 30 13 (by decide) rfl gin13 0 1300 RJx4a65c (Or.inr lk_sf_Jx4a65c_0_RJx4a65c) 0 rfl rfl (by decide) lk_fRJx4a65c_63 (gD D_Jx4a65c_add_9ea2d_0 2 rfl) ?_
  refine v_iconst X 1 (gD D_Jx4a65c_add_9ea2d_0 3 rfl) (by decide) ?_
  refine v_iadd X (gD D_Jx4a65c_add_9ea2d_0 4 rfl) ?_
  refine v_putI X RJx4a65c TJx4a65c 3 30 13 (by decide) rfl gin13 0 1300 tyJx4a65c tyJx4a65c_ok nmJx4a65c RJx4a65c (Or.inr lk_sf_Jx4a65c_0_RJx4a65c) 0 rfl .int (int_fit _) rfl (by decide) (Or.inl rfl) lk_fRJx4a65c_63 rfl rfl (gD D_Jx4a65c_add_9ea2d_0 5 rfl) (fun s51 es51 => ?_)
  replace hw := hw s51 es51
  refine v_aload_n X 0 rfl (gD D_Jx4a65c_add_9ea2d_0 6 rfl) rfl ?_
  refine v_aload_n X 1 rfl (gD D_Jx4a65c_add_9ea2d_0 7 rfl) rfl ?_
  refine v_aload_n X 0 rfl (gD D_Jx4a65c_add_9ea2d_0 8 rfl) rfl ?_
  refine v_getR X RJx4a65c TJx4a65c 3 30 13 (by decide) rfl gin13 1 1301 RJx4a65c (Or.inl rfl) 0 50 rfl rfl rfl (by decide) lk_fRJx4a65c_9 (gD D_Jx4a65c_add_9ea2d_0 9 rfl) (fun o52 eo52 => ?_)
  replace hw := hw o52 eo52
  refine v_aload_n X 0 rfl (gD D_Jx4a65c_add_9ea2d_0 10 rfl) rfl ?_
  refine v_getI X RJx4a65c TJx4a65c 3 30 13 (by decide) rfl gin13 2 1302 RJx4a65c (Or.inl rfl) 1 rfl rfl (by decide) lk_fRJx4a65c_48 (gD D_Jx4a65c_add_9ea2d_0 11 rfl) ?_
  obtain ⟨a53, rfl, hw⟩ := hw
  obtain ⟨k56, n57, k58, n59, h60, h61, hw⟩ := hw
  refine v_callVv X (As := [va_rf (some a1), va_rf (some a53), .int (sI s51 1302 a0)]) (rest := []) (nA := 3) k56 n57 k58 n59 (fun ht => c_Jx4a65c_add_72be8 htr hE1 (ht.sub [1, 2, 0] rfl) hw) (Or.inl rfl) 1 (κ := 30) rfl (by decide) (rfl : gCl[13]? = some (RJx4a65c, TJx4a65c, 3)) lk_vRJx4a65c_131 (by decide +kernel) rfl rfl (by decide) (by decide) (by decide) h60 h61 (gD D_Jx4a65c_add_9ea2d_0 12 rfl) (fun s55 hq _ _ => ?_)
  replace hw := hq
  clear hq
  refine v_iconst X 1 (gD D_Jx4a65c_add_9ea2d_0 13 rfl) (by decide) ?_
  exact v_zret X hr (by decide) hw (gD D_Jx4a65c_add_9ea2d_0 14 rfl)
