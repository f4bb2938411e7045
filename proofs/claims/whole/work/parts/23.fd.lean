/-! THE CLASS'S METHODS OVER NUMBERS -/
theorem FU_ex : ∃ n : Nat, n = 100000 := ⟨_, rfl⟩
noncomputable def FU : Nat := Classical.choose FU_ex
theorem FU_eq : FU = 100000 := Classical.choose_spec FU_ex
theorem ato_k {D : Nat → Nat → Nat} {S : Ss} {c i b : Nat} {o : Option Nat} (p : o = some b) (A : AT D S c i b) : ATo D S c (some i) o := by rw [p]; exact A.sm
theorem mrd_some {R : Type} {g : Ss → MM R} {S : Ss} {z : Option (R × Ss)} (h : (mrd g).1 S = z) : (g S).1 S = z := h
def f_X0_madeAnew_66 (K5 : Int32 → Int32 → Int32 → Int32 → MM (Int32)) (x1 : Int32) (x2 : Int32) (x4 : Int32) (xs0 : Int32) (xs1 : Int32) : MM (Int32) :=
  mrd fun S => mbo (xs0 - xs1 : Int32) fun x63 => mix (x4 + 1) (zN S 60) <| if (zM S (x4 + 1).toNatClampNeg) = x1 then mix (x4 + 3) (zN S 60) <| mbo (x63 + (zM S (x4 + 3).toNatClampNeg) : Int32) fun x72 => K5 x1 x2 x72 (x4 + 4) else mbo (x63 + 0 : Int32) fun x68 => K5 x1 x2 x68 (x4 + 4)
def f_X0_madeAnew_5 : Nat → Int32 → Int32 → Int32 → Int32 → MM (Int32)
  | 0, _, _, _, _ => mfail
  | f + 1, x1, x2, x3, x4 =>
    mrd fun S => if (zA S 7 0) < (x4 + 4) then mret x3 else if (nI (zN S 60)) < (x4 + 4) then mret x3 else mix (x4 + 2) (zN S 60) <| if (zM S (x4 + 2).toNatClampNeg) = x2 then mix x4 (zN S 60) <| if (zM S x4.toNatClampNeg) = x1 then mix (x4 + 3) (zN S 60) <| f_X0_madeAnew_66 (f_X0_madeAnew_5 f) x1 x2 x4 x3 (zM S (x4 + 3).toNatClampNeg) else f_X0_madeAnew_66 (f_X0_madeAnew_5 f) x1 x2 x4 x3 0 else f_X0_madeAnew_5 f x1 x2 x3 (x4 + 4)
noncomputable def f_X0_madeAnew (x1 : Int32) (x2 : Int32) : MM (Int32) :=
  f_X0_madeAnew_5 FU x1 x2 0 0
def f_X10_init (i0 : Nat) (x1 : Int32) (x2 : Int32) (i3 : Nat) (x4 : Int32) : MM (Unit) :=
  wA 1005 i0 0 <| wA 1000 i0 x1 <| wA 1001 i0 x2 <| wO 1002 i0 (some i3) <| wA 1003 i0 x4 <| mrd fun S55 => wA 1004 i0 (zA S55 204 i3) <| mret ()
def f_X10_nextStation (i0 : Nat) : MM (Int32) :=
  mrd fun S => if (zA S 1006 i0) = 0 then if (zA S 1001 i0) = 0 then mret (-1) else mbo (zO S 1002 i0) fun r53 => mopt r53 fun i54 => mret (zA S 202 i54) else mret (zA S 1003 i0)
def f_X11_bill  : MM (Int32) :=
  mrd fun S => mret (zA S 1118 0)
def f_X11_isBarred (x0 : Int32) (x1 : Int32) (x2 : Int32) : MM (Int32) :=
  if ((x0 >>> (((x1 * 4) + x2) &&& 31)) &&& 1) = 1 then mret 1 else mret 0
def f_X11_isGoodFor (i1 : Nat) (i2 : Nat) (i3 : Nat) : MM (Int32) :=
  mrd fun S => mbo (zO S 501 i3) fun r51 => if r51 = (some i2) then if (zA S 503 i3) = 0 then if (zA S 502 i3) < ((zA S 1116 0) + (zA S 703 i1)) then mret 0 else mret 1 else mret 0 else mret 0
def f_X11_isGroup (x0 : Int32) : MM (Int32) :=
  if x0 < 0 then mret 0 else if 4 ≤ x0 then mret 0 else mret 1
def f_X11_isItem (x0 : Int32) : MM (Int32) :=
  if x0 < 0 then mret 0 else if 6 ≤ x0 then mret 0 else mret 1
def f_X11_isRobot (x0 : Int32) : MM (Int32) :=
  if x0 < 0 then mret 0 else if 3 ≤ x0 then mret 0 else mret 1
def f_X11_isSlot (x0 : Int32) : MM (Int32) :=
  if x0 < 0 then mret 0 else if 18 ≤ x0 then mret 0 else mret 1
def f_X11_isWithin (x0 : Int32) (x1 : Int32) (x2 : Int32) : MM (Int32) :=
  if x0 < x1 then mret 0 else if x2 < x0 then mret 0 else mret 1
def f_X11_robotIn_11 : Nat → Int32 → Int32 → Int32 → MM (Option Nat)
  | 0, _, _, _ => mfail
  | f + 1, x1, x3, x4 =>
    mrd fun S => if x3 ≤ x4 then mret none else mix x4 (aLn 1102) <| if (zA S 801 x4.toNatClampNeg) = x1 then mret (some x4.toNatClampNeg) else f_X11_robotIn_11 f x1 x3 (x4 + 1)
noncomputable def f_X11_robotIn (x1 : Int32) : MM (Option Nat) :=
  mbo (nI (aLn 1102) : Int32) fun x53 => f_X11_robotIn_11 FU x1 x53 0
def f_X11_standstills  : MM (Int32) :=
  mrd fun S => mret (zA S 1117 0)
def f_X2_init (i0 : Nat) (r1 : Option Nat) (r2 : Option Nat) (x3 : Int32) (i4 : Nat) (x5 : Int32) : MM (Unit) :=
  wO 200 i0 r1 <| wO 201 i0 r2 <| wA 202 i0 x3 <| wO 203 i0 (some i4) <| wA 204 i0 x5 <| mret ()
def f_X2_isOf (i0 : Nat) (x1 : Int32) (i2 : Nat) : MM (Int32) :=
  mrd fun S => if (zA S 202 i0) = x1 then mbo (zO S 203 i0) fun r52 => if r52 = (some i2) then mret 1 else mret 0 else mret 0
def f_X2_turn (i0 : Nat) : MM (Int32) :=
  mrd fun S => mbo (zO S 200 i0) fun r51 => mcase r51 (mret 8) fun i53 => mbo (zO S 200 i0) fun r54 => mopt r54 fun i55 => mret (zA S 700 i55)
def f_X4_init (i0 : Nat) (i1 : Nat) (x2 : Int32) : MM (Unit) :=
  wO 400 i0 (some i1) <| wA 401 i0 x2 <| mret ()
def f_X4_lacking (i0 : Nat) : MM (Int32) :=
  mrd fun S => mret (((zA S 401 i0) - (zA S 402 i0)) - (zA S 403 i0))
def f_X5_init (i0 : Nat) (x1 : Int32) (i2 : Nat) (x3 : Int32) : MM (Unit) :=
  wA 500 i0 x1 <| wO 501 i0 (some i2) <| wA 502 i0 x3 <| mret ()
def f_X6_init (i0 : Nat) (i1 : Nat) (x2 : Int32) : MM (Unit) :=
  wO 600 i0 (some i1) <| wA 601 i0 x2 <| mret ()
def f_X8_goToFront (i0 : Nat) : MM (Unit) :=
  wA 801 i0 (-1) <| wA 802 i0 0 <| mret ()
def f_X0_freePieces (x1 : Int32) (x2 : Int32) : MM (Int32) :=
  mrd fun S => mbo (cAt S 0 x1 x2) fun x53 => mbo (cAt S 3 x1 x2) fun x57 => mret (x53 - x57)
def f_X0_hasOrAwaits (x1 : Int32) (x2 : Int32) : MM (Int32) :=
  mrd fun S => mbo (cAt S 1 x1 x2) fun x53 => if 0 < x53 then mret 1 else mbo (cAt S 4 x1 x2) fun x58 => if x58 ≤ 0 then mret 0 else mret 1
def f_X0_isDoubted (x1 : Int32) (x2 : Int32) (x3 : Int32) : MM (Int32) :=
  mrd fun S => mbo (cAt S 5 x1 x2) fun x53 => if x53 = (x3 + 1) then mret 1 else mret 0
def f_X0_keepDoubt_26 (xs1 : Int32) (xs2 : Int32) (xs3 : Int32) : MM (Unit) :=
  mput 5 xs1 xs2 xs3 <| mret ()
def f_X0_keepDoubt (x1 : Int32) (x2 : Int32) (x3 : Int32) : MM (Unit) :=
  mrd fun S => mbo (cAt S 0 x1 x2) fun x54 => if x3 = x54 then f_X0_keepDoubt_26 x1 x2 0 else f_X0_keepDoubt_26 x1 x2 (x3 + 1)
def f_X0_note_47 (x1 : Int32) (x2 : Int32) (x3 : Int32) (x4 : Int32) (x5 : Int32) : MM (Unit) :=
  mrd fun S => if (zA S 7 0) < 0 then mret () else if (nI (zN S 60)) < x5 then mret () else mix (zA S 7 0) (zN S 60) <| wM (zA S 7 0) x1 <| mrd fun S62 => mix ((zA S62 7 0) + 1) (zN S62 60) <| wM ((zA S62 7 0) + 1) x2 <| mrd fun S66 => mix ((zA S66 7 0) + 2) (zN S66 60) <| wM ((zA S66 7 0) + 2) x3 <| mrd fun S70 => mix ((zA S70 7 0) + 3) (zN S70 60) <| wM ((zA S70 7 0) + 3) x4 <| wA 7 0 x5 <| mret ()
def f_X0_note (x1 : Int32) (x2 : Int32) (x3 : Int32) (x4 : Int32) : MM (Unit) :=
  mrd fun S => mbo ((zA S 7 0) + 4 : Int32) fun x51 => if x51 ≤ (nI (zN S 60)) then f_X0_note_47 x1 x2 x3 x4 x51 else if 4096 ≤ (nI (zN S 60)) then f_X0_note_47 x1 x2 x3 x4 x51 else mgrow <| f_X0_note_47 x1 x2 x3 x4 x51
def f_X11_bar_74 (x4 : Int32) (xs1 : Int32) : MM (Nat × Int32) :=
  wA 1115 0 xs1 <| mgd (decide (x4 = 0 ∨ x4 = 1)) <| mret (0, x4)
def f_X11_bar (x1 : Int32) (x2 : Int32) (x3 : Int32) : MM (Nat × Int32) :=
  mb (f_X11_isGroup x1) fun x51 => if x51 = 0 then mthr 1 else mb (f_X11_isGroup x2) fun x54 => mrd fun S55 => if x54 = 0 then mthr 1 else mb (f_X11_isBarred (zA S55 1115 0) x1 x2) fun x57 => mrd fun S58 => mbo ((1 <<< (((x1 * 4) + x2) &&& 31)) ||| (1 <<< (((x2 * 4) + x1) &&& 31)) : Int32) fun x59 => if x3 = 0 then f_X11_bar_74 x57 ((zA S58 1115 0) &&& (x59 ^^^ (-1))) else f_X11_bar_74 x57 ((zA S58 1115 0) ||| x59)
def f_X11_fitsIntoBox_94 (K54 : Int32 → Nat → Int32 → Int32 → Int32 → MM (Int32)) (x1 : Int32) (i2 : Nat) (x3 : Int32) (x5 : Int32) (x6 : Int32) (r7 : Option Nat) (xs0 : Int32) : MM (Int32) :=
  mrd fun S => if xs0 = 0 then K54 x1 i2 x3 x5 (x6 + 1) else if r7 = (some i2) then K54 x1 i2 x3 x5 (x6 + 1) else mopt r7 fun i76 => mb (f_X11_isBarred x3 (zA S 304 i76) (zA S 304 i2)) fun x77 => if x77 = 0 then K54 x1 i2 x3 x5 (x6 + 1) else mret 0
def f_X11_fitsIntoBox_54 : Nat → Int32 → Nat → Int32 → Int32 → Int32 → MM (Int32)
  | 0, _, _, _, _, _ => mfail
  | f + 1, x1, i2, x3, x5, x6 =>
    mrd fun S => if x5 ≤ x6 then mret 1 else mix x6 (aLn 1101) <| mbo (cAt S 1113 x1 3) fun x70 => if ((x70 >>> ((zA S 300 x6.toNatClampNeg) &&& 31)) &&& 1) = 1 then f_X11_fitsIntoBox_94 (f_X11_fitsIntoBox_54 f) x1 i2 x3 x5 x6 (some x6.toNatClampNeg) 1 else f_X11_fitsIntoBox_94 (f_X11_fitsIntoBox_54 f) x1 i2 x3 x5 x6 (some x6.toNatClampNeg) 0
noncomputable def f_X11_fitsIntoBox (x1 : Int32) (i2 : Nat) (x3 : Int32) : MM (Int32) :=
  mrd fun S => mbo (cAt S 1113 x1 0) fun x53 => if 30 < (x53 + (zA S 302 i2)) then mret 0 else mbo (cAt S 1113 x1 1) fun x58 => if (x58 + (zA S 303 i2)) ≤ 50 then mbo (nI (aLn 1101) : Int32) fun x63 => f_X11_fitsIntoBox_54 FU x1 i2 x3 x63 0 else mret 0
def f_X11_freeRoom_31 : Nat → Int32 → Int32 → Int32 → Int32 → MM (Int32)
  | 0, _, _, _, _ => mfail
  | f + 1, x1, x2, x4, x5 =>
    mrd fun S => if x4 ≤ x5 then mret x2 else mix x5 (aLn 1101) <| mbo (cAt S 1 x1 (zA S 300 x5.toNatClampNeg)) fun x72 => mbo (cAt S 4 x1 (zA S 300 x5.toNatClampNeg)) fun x78 => mbo (x2 - ((zA S 302 x5.toNatClampNeg) * (x72 + x78)) : Int32) fun x80 => f_X11_freeRoom_31 f x1 x80 x4 (x5 + 1)
noncomputable def f_X11_freeRoom (x1 : Int32) : MM (Int32) :=
  mb (f_X11_isSlot x1) fun x51 => mrd fun S52 => if x51 = 0 then mret 0 else mix x1 (aLn 1100) <| mbo (zA S52 901 x1.toNatClampNeg : Int32) fun x59 => mbo (nI (aLn 1101) : Int32) fun x62 => f_X11_freeRoom_31 FU x1 x59 x62 0
def f_X11_isForWave (i0 : Nat) (x1 : Int32) : MM (Int32) :=
  mrd fun S => mbo (zO S 200 i0) fun r51 => mcase r51 (mret 0) fun i53 => mbo (zO S 205 i0) fun r54 => mcase r54 (mb (f_X2_turn i0) fun x57 => if ((x1 >>> (x57 &&& 31)) &&& 1) = 1 then mret 1 else mret 0) fun i56 => mret 0
def f_X11_isInRing_43 (r2 : Option Nat) : MM (Int32) :=
  mcase r2 (mret 0) fun i61 => mret 1
def f_X11_isInRing_33 (K4 : Nat → Option Nat → Int32 → MM (Int32)) (i1 : Nat) (x3 : Int32) (rs0 : Option Nat) : MM (Int32) :=
  mcase rs0 (f_X11_isInRing_43 none) fun i59 => if (some i59) = (some i1) then f_X11_isInRing_43 (some i59) else K4 i1 (some i59) (x3 + 1)
noncomputable def f_X11_isInRing_4 : Nat → Nat → Option Nat → Int32 → MM (Int32)
  | 0, _, _, _ => mfail
  | f + 1, i1, r2, x3 =>
    mrd fun S => if (nI (aLn 1102)) ≤ x3 then mret 0 else mopt r2 fun i54 => if (zA S 803 i54) = (-1) then f_X11_isInRing_33 (f_X11_isInRing_4 f) i1 x3 none else mb (f_X11_robotIn (zA S 803 i54)) fun r56 => f_X11_isInRing_33 (f_X11_isInRing_4 f) i1 x3 r56
noncomputable def f_X11_isInRing (i1 : Nat) : MM (Int32) :=
  f_X11_isInRing_4 FU i1 (some i1) 0
def f_X11_isLot (x1 : Int32) : MM (Int32) :=
  mrd fun S => if x1 < 0 then mret 0 else mbo (nI (zL S 1103 0).length) fun x54 => if x54 ≤ x1 then mret 0 else mret 1
def f_X11_isNotice (x1 : Int32) : MM (Int32) :=
  mrd fun S => if x1 < 0 then mret 0 else mbo (nI (zL S 1105 0).length) fun x54 => if x54 ≤ x1 then mret 0 else mret 1
def f_X11_isOrder (x1 : Int32) : MM (Int32) :=
  mrd fun S => if x1 < 0 then mret 0 else mbo (nI (zL S 1106 0).length) fun x54 => if x54 ≤ x1 then mret 0 else mret 1
def f_X11_isTask (x1 : Int32) : MM (Int32) :=
  mrd fun S => if x1 < 0 then mret 0 else mbo (nI (zL S 1108 0).length) fun x54 => if x54 ≤ x1 then mret 0 else mret 1
def f_X11_openBox_2 : Nat → Int32 → MM (Unit)
  | 0, _ => mfail
  | f + 1, x1 =>
    mrd fun S => if 4 ≤ x1 then wA 1114 0 ((zA S 1114 0) + 1) <| mret () else mput 1113 (zA S 1114 0) x1 0 <| f_X11_openBox_2 f (x1 + 1)
noncomputable def f_X11_openBox  : MM (Unit) :=
  f_X11_openBox_2 FU 0
def f_X11_piecesToPack (i1 : Nat) (i2 : Nat) : MM (Int32) :=
  mrd fun S => if (zA S 705 i1) = 0 then mbo (cAt S 1 (20 + (zA S 700 i1)) (zA S 300 i2)) fun x56 => mret x56 else mbo (cAt S 1112 (zA S 700 i1) (zA S 300 i2)) fun x60 => mret x60
def f_X11_putIntoBox (x1 : Int32) (i2 : Nat) : MM (Unit) :=
  mrd fun S => madd 1113 x1 0 (zA S 302 i2) <| mrd fun S54 => madd 1113 x1 1 (zA S54 303 i2) <| madd 1113 x1 2 1 <| mrd fun S62 => mbo (cAt S62 1113 x1 3) fun x66 => mput 1113 x1 3 (x66 ||| (1 <<< ((zA S62 300 i2) &&& 31))) <| mret ()
def f_X11_release_53 (i1 : Nat) (x2 : Int32) : MM (Unit) :=
  mrd fun S => mbo (zO S 205 i1) fun r63 => mcase r63 (mret ()) fun i65 => mbo (zO S 205 i1) fun r66 => mopt r66 fun i67 => if (zA S 1001 i67) = 2 then mret () else mbo (zO S 205 i1) fun r72 => mopt r72 fun i73 => mbo (zO S 203 i1) fun r74 => mopt r74 fun i75 => mbo (zO S 501 i75) fun r76 => mopt r76 fun i77 => madd 4 (zA S 1003 i73) (zA S 300 i77) (-x2) <| mret ()
def f_X11_release (i1 : Nat) (x2 : Int32) : MM (Unit) :=
  mrd fun S => wA 204 i1 ((zA S 204 i1) - x2) <| mrd fun S51 => mbo (zO S51 203 i1) fun r55 => mopt r55 fun i56 => madd 3 (zA S51 202 i1) (zA S51 500 i56) (-x2) <| mrd fun S59 => mbo (zO S59 201 i1) fun r60 => mcase r60 (f_X11_release_53 i1 x2) fun i62 => mbo (zO S59 201 i1) fun r81 => mopt r81 fun i82 => wA 402 i82 ((zA S59 402 i82) - x2) <| f_X11_release_53 i1 x2
def f_X11_strangeness (x1 : Int32) (i2 : Nat) : MM (Int32) :=
  mrd fun S => mbo (cAt S 0 x1 (zA S 500 i2)) fun x55 => if x55 ≤ 0 then mbo (zO S 501 i2) fun r61 => mopt r61 fun i62 => mbo (cAt S 1 x1 (zA S 300 i62)) fun x64 => if x64 ≤ 0 then mret 2 else mret 1 else mret 0
def f_X11_tasks  : MM (Int32) :=
  mrd fun S => mbo (nI (zL S 1108 0).length) fun x53 => mret x53
def f_X11_turnInWave_28 (i0 : Nat) (x1 : Int32) (xs0 : Int32) : MM (Int32) :=
  mrd fun S => mbo ((x1 * 6) + xs0 : Int32) fun x54 => mbo (zO S 203 i0) fun r55 => mopt r55 fun i56 => mb (f_X2_turn i0) fun x57 => mret ((((x54 * 12) + (zA S 500 i56)) * 9) + x57)
def f_X11_turnInWave (i0 : Nat) : MM (Int32) :=
  mrd fun S => mbo ((zA S 202 i0) / 6 : Int32) fun x51 => mbo ((zA S 202 i0) - (zA S 202 i0) / 6 * 6 : Int32) fun x52 => if x51 = 1 then f_X11_turnInWave_28 i0 x51 (5 - x52) else f_X11_turnInWave_28 i0 x51 x52
def f_X11_where (x1 : Int32) : MM (Nat × Int32) :=
  mb (f_X11_isRobot x1) fun x51 => mrd fun S52 => if x51 = 0 then mthr 1 else mix x1 (aLn 1102) <| if (zA S52 801 x1.toNatClampNeg) = (-1) then mret (0, (-1)) else mret (0, ((10 * (zA S52 801 x1.toNatClampNeg)) + (zA S52 802 x1.toNatClampNeg)))
def f_X0_write (x1 : Int32) (x2 : Int32) (i3 : Nat) (x4 : Int32) : MM (Unit) :=
  mrd fun S => if x4 = 0 then mret () else madd 0 x1 (zA S 500 i3) (-x4) <| mrd fun S55 => madd 0 x2 (zA S55 500 i3) x4 <| mrd fun S59 => mbo (zO S59 501 i3) fun r61 => mopt r61 fun i62 => madd 1 x1 (zA S59 300 i62) (-x4) <| mrd fun S65 => mbo (zO S65 501 i3) fun r67 => mopt r67 fun i68 => madd 1 x2 (zA S65 300 i68) x4 <| mrd fun S71 => mput 5 x1 (zA S71 500 i3) 0 <| mrd fun S75 => mput 5 x2 (zA S75 500 i3) 0 <| mrd fun S79 => mb (f_X0_note x1 x2 (zA S79 500 i3) x4) fun w81 => mret ()
def f_X11_cut (i1 : Nat) (x2 : Int32) : MM (Int32) :=
  mrd fun S => mbo ((if x2 < (zA S 204 i1) then x2 else (zA S 204 i1)) : Int32) fun x51 => mb (f_X11_release i1 ((zA S 204 i1) - x51)) fun w53 => mrd fun S53 => mbo (zO S53 205 i1) fun r54 => mcase r54 (mret x51) fun i56 => mbo (zO S53 205 i1) fun r57 => mopt r57 fun i58 => wA 1004 i58 x51 <| mrd fun S59 => if x51 = 0 then mbo (zO S59 205 i1) fun r61 => mopt r61 fun i62 => wA 1005 i62 3 <| mret x51 else mret x51
noncomputable def f_X11_fillBoxes_42 (K6 : Nat → Int32 → Int32 → Int32 → MM (Unit)) : Nat → Nat → Int32 → Int32 → Int32 → MM (Unit)
  | 0, _, _, _, _ => mfail
  | f + 1, i1, x3, x4, x5 =>
    if x4 ≤ 0 then K6 i1 x3 x4 (x5 + 1) else mb (f_X11_fitsIntoBox x5 i1 x3) fun x55 => if x55 = 0 then K6 i1 x3 x4 (x5 + 1) else mb (f_X11_putIntoBox x5 i1) fun w59 => f_X11_fillBoxes_42 K6 f i1 x3 (x4 + (-1)) x5
noncomputable def f_X11_fillBoxes_6 : Nat → Nat → Int32 → Int32 → Int32 → MM (Unit)
  | 0, _, _, _, _ => mfail
  | f + 1, i1, x3, x4, x5 =>
    mrd fun S => if 297 ≤ x5 then mret () else if x4 ≤ 0 then mret () else if x5 = (zA S 1114 0) then mb (f_X11_openBox ) fun w62 => mb (f_X11_putIntoBox x5 i1) fun w64 => f_X11_fillBoxes_42 (f_X11_fillBoxes_6 f) FU i1 x3 (x4 + (-1)) x5 else f_X11_fillBoxes_42 (f_X11_fillBoxes_6 f) FU i1 x3 x4 x5
noncomputable def f_X11_fillBoxes (i1 : Nat) (x2 : Int32) (x3 : Int32) : MM (Unit) :=
  f_X11_fillBoxes_6 FU i1 x3 x2 0
def f_X11_find (x1 : Int32) (x2 : Int32) (x3 : Int32) : MM (Nat × Int32) :=
  mb (f_X11_isSlot x1) fun x51 => if x51 = 0 then mthr 1 else mb (f_X11_isLot x2) fun x54 => if x54 = 0 then mthr 1 else mb (f_X11_isWithin x3 1 99) fun x57 => if x57 = 0 then mthr 2 else madd 2 x1 x2 x3 <| mrd fun S65 => mbo (cAt S65 2 x1 x2) fun x70 => mret (0, x70)
def f_X11_free (x1 : Int32) (x2 : Int32) : MM (Nat × Int32) :=
  mb (f_X11_isWithin x1 0 18) fun x51 => if x51 = 0 then mthr 1 else mb (f_X11_isLot x2) fun x54 => if x54 = 0 then mthr 1 else mb (f_X0_freePieces x1 x2) fun x59 => mret (0, x59)
def f_X11_isBarredIn_12 : Nat → Int32 → Nat → Int32 → Int32 → MM (Int32)
  | 0, _, _, _, _ => mfail
  | f + 1, x1, i2, x4, x5 =>
    mrd fun S => if x4 ≤ x5 then mret 0 else mix x5 (aLn 1101) <| if (some x5.toNatClampNeg) = (some i2) then f_X11_isBarredIn_12 f x1 i2 x4 (x5 + 1) else mb (f_X11_isBarred (zA S 1115 0) (zA S 304 x5.toNatClampNeg) (zA S 304 i2)) fun x60 => mrd fun S61 => if x60 = 0 then f_X11_isBarredIn_12 f x1 i2 x4 (x5 + 1) else mb (f_X0_hasOrAwaits x1 (zA S61 300 x5.toNatClampNeg)) fun x65 => if x65 = 0 then f_X11_isBarredIn_12 f x1 i2 x4 (x5 + 1) else mret 1
noncomputable def f_X11_isBarredIn (x1 : Int32) (i2 : Nat) : MM (Int32) :=
  mbo (nI (aLn 1101) : Int32) fun x53 => f_X11_isBarredIn_12 FU x1 i2 x53 0
def f_X11_isUsed_2 : Nat → Int32 → Int32 → MM (Int32)
  | 0, _, _ => mfail
  | f + 1, x1, x2 =>
    if 6 ≤ x2 then mret 0 else mb (f_X0_hasOrAwaits x1 x2) fun x54 => if x54 = 0 then f_X11_isUsed_2 f x1 (x2 + 1) else mret 1
noncomputable def f_X11_isUsed (x1 : Int32) : MM (Int32) :=
  f_X11_isUsed_2 FU x1 0
def f_X11_lose (x1 : Int32) (x2 : Int32) (x3 : Int32) : MM (Nat × Int32) :=
  mb (f_X11_isSlot x1) fun x51 => if x51 = 0 then mthr 1 else mb (f_X11_isLot x2) fun x54 => if x54 = 0 then mthr 1 else mb (f_X11_isWithin x3 1 99) fun x57 => mrd fun S58 => if x57 = 0 then mthr 2 else mbo (cAt S58 2 x1 x2) fun x67 => madd 2 x1 x2 (-(if x67 < x3 then x67 else x3)) <| mrd fun S71 => mbo (cAt S71 2 x1 x2) fun x76 => mret (0, x76)
def f_X11_received (x1 : Int32) (x2 : Int32) : MM (Nat × Int32) :=
  mb (f_X11_isNotice x1) fun x51 => if x51 = 0 then mthr 1 else mb (f_X11_isLot x2) fun x54 => mrd fun S55 => if x54 = 0 then mthr 1 else mbo (cAt S55 1110 x1 x2) fun x59 => mret (0, x59)
noncomputable def f_X11_room (x1 : Int32) : MM (Nat × Int32) :=
  mb (f_X11_isSlot x1) fun x51 => if x51 = 0 then mthr 1 else mb (f_X11_freeRoom x1) fun x54 => mret (0, x54)
def f_X11_sent (x1 : Int32) (x2 : Int32) : MM (Nat × Int32) :=
  mb (f_X11_isOrder x1) fun x51 => if x51 = 0 then mthr 1 else mb (f_X11_isLot x2) fun x54 => mrd fun S55 => if x54 = 0 then mthr 1 else mbo (cAt S55 1111 x1 x2) fun x59 => mret (0, x59)
def f_X11_slotToRefillFrom_2 : Nat → Nat → Int32 → MM (Int32)
  | 0, _, _ => mfail
  | f + 1, i1, x2 =>
    mrd fun S => if (nI (aLn 1100)) ≤ x2 then mret (-1) else mix x2 (aLn 1100) <| mbo (zO S 902 x2.toNatClampNeg) fun r59 => mcase r59 (mb (f_X0_freePieces x2 (zA S 500 i1)) fun x64 => if x64 ≤ 0 then f_X11_slotToRefillFrom_2 f i1 (x2 + 1) else mret x2) fun i61 => f_X11_slotToRefillFrom_2 f i1 (x2 + 1)
noncomputable def f_X11_slotToRefillFrom (i1 : Nat) : MM (Int32) :=
  f_X11_slotToRefillFrom_2 FU i1 0
def f_X11_stock (x1 : Int32) (x2 : Int32) : MM (Nat × Int32) :=
  mb (f_X11_isWithin x1 0 27) fun x51 => if x51 = 0 then mthr 1 else mb (f_X11_isLot x2) fun x54 => mrd fun S55 => if x54 = 0 then mthr 1 else mbo (cAt S55 0 x1 x2) fun x61 => mret (0, x61)
noncomputable def f_X11_stockAnew (x1 : Int32) (x2 : Int32) : MM (Nat × Int32) :=
  mb (f_X11_isWithin x1 0 27) fun x51 => if x51 = 0 then mthr 1 else mb (f_X11_isLot x2) fun x54 => if x54 = 0 then mthr 1 else mb (f_X0_madeAnew x1 x2) fun x59 => mret (0, x59)
noncomputable def f_X11_undoStandstill_8 : Nat → Int32 → MM (Unit)
  | 0, _ => mfail
  | f + 1, x1 =>
    if x1 < 0 then mret () else mix x1 (aLn 1102) <| mb (f_X11_isInRing x1.toNatClampNeg) fun x60 => if x60 = 0 then f_X11_undoStandstill_8 f (x1 + (-1)) else mix x1 (aLn 1102) <| mb (f_X8_goToFront x1.toNatClampNeg) fun w69 => mrd fun S69 => wA 1117 0 ((zA S69 1117 0) + 1) <| mret ()
noncomputable def f_X11_undoStandstill  : MM (Unit) :=
  mbo ((nI (aLn 1102)) - 1 : Int32) fun x53 => f_X11_undoStandstill_8 FU x53
def f_X0_believeTruth (x1 : Int32) (i2 : Nat) : MM (Unit) :=
  mrd fun S => mbo (cAt S 2 x1 (zA S 500 i2)) fun x53 => mbo (cAt S 0 x1 (zA S 500 i2)) fun x57 => mb (f_X0_write (-1) x1 i2 (x53 - x57)) fun w60 => mret ()
def f_X0_move_27 (x1 : Int32) (x2 : Int32) (i3 : Nat) (x4 : Int32) (xs0 : Int32) : MM (Unit) :=
  mrd fun S => madd 2 x1 (zA S 500 i3) (-xs0) <| mrd fun S59 => madd 2 x2 (zA S59 500 i3) xs0 <| mb (f_X0_write x1 x2 i3 x4) fun w65 => mret ()
def f_X0_move (x1 : Int32) (x2 : Int32) (i3 : Nat) (x4 : Int32) : MM (Unit) :=
  mrd fun S => if x1 = (-1) then f_X0_move_27 x1 x2 i3 x4 x4 else mbo (cAt S 2 x1 (zA S 500 i3)) fun x54 => f_X0_move_27 x1 x2 i3 x4 (if x54 < x4 then x54 else x4)
noncomputable def f_X11_canTake_82 (x1 : Int32) (i2 : Nat) (x4 : Int32) : MM (Int32) :=
  if x4 = 5 then mret 1 else mb (f_X11_isBarredIn (x1 + 1) i2) fun x77 => if x77 = 0 then mret 1 else mret 0
noncomputable def f_X11_canTake (x1 : Int32) (i2 : Nat) (x3 : Int32) : MM (Int32) :=
  mb (f_X11_isSlot x1) fun x51 => mrd fun S52 => if x51 = 0 then mret 0 else mix x1 (aLn 1100) <| mbo (zO S52 902 x1.toNatClampNeg) fun r59 => mcase r59 (mix x1 (aLn 1100) <| if (zA S52 900 x1.toNatClampNeg) = (zA S52 301 i2) then mb (f_X11_freeRoom x1) fun x68 => mrd fun S69 => if (x3 * (zA S69 302 i2)) ≤ x68 then mbo (x1 - x1 / 6 * 6 : Int32) fun x71 => mb (f_X11_isBarredIn x1 i2) fun x72 => if x72 = 0 then if x71 = 0 then f_X11_canTake_82 x1 i2 x71 else mb (f_X11_isBarredIn (x1 - 1) i2) fun x80 => if x80 = 0 then f_X11_canTake_82 x1 i2 x71 else mret 0 else mret 0 else mret 0 else mret 0) fun i61 => mret 0
def f_X11_dropEmptyHoldings_10 : Nat → Int32 → MM (Unit)
  | 0, _ => mfail
  | f + 1, x1 =>
    mrd fun S => if x1 < 0 then mret () else mlget 1107 0 x1 fun i59 => if 0 < (zA S 204 i59) then f_X11_dropEmptyHoldings_10 f (x1 + (-1)) else mlrem 1107 0 x1 fun i66 => f_X11_dropEmptyHoldings_10 f (x1 + (-1))
noncomputable def f_X11_dropEmptyHoldings  : MM (Unit) :=
  mrd fun S => mbo (nI (zL S 1107 0).length) fun x53 => mbo (x53 - 1 : Int32) fun x55 => f_X11_dropEmptyHoldings_10 FU x55
def f_X11_face_126 (x1 : Int32) (x3 : Int32) (x4 : Int32) (r6 : Option Nat) : MM (Nat × Int32) :=
  mix x1 (aLn 1100) <| wO 902 x1.toNatClampNeg r6 <| mix x1 (aLn 1100) <| wA 903 x1.toNatClampNeg x3 <| mix x1 (aLn 1100) <| wA 904 x1.toNatClampNeg x4 <| mret (0, 0)
noncomputable def f_X11_face_86 (x1 : Int32) (x3 : Int32) (x4 : Int32) (rs0 : Option Nat) : MM (Nat × Int32) :=
  mb (f_X11_isUsed x1) fun x65 => mrd fun S66 => if x65 = 0 then mcase rs0 (f_X11_face_126 x1 x3 x4 none) fun i69 => mix x1 (aLn 1100) <| if (zA S66 301 i69) = (zA S66 900 x1.toNatClampNeg) then f_X11_face_126 x1 x3 x4 (some i69) else mthr 3 else mthr 3
noncomputable def f_X11_face_38 (x1 : Int32) (x2 : Int32) (x3 : Int32) (x4 : Int32) (xs0 : Int32) : MM (Nat × Int32) :=
  mb (f_X11_isWithin x3 0 xs0) fun x56 => if x56 = 0 then mthr 2 else mb (f_X11_isWithin x4 x3 xs0) fun x59 => if x59 = 0 then mthr 2 else mb (f_X11_isItem x2) fun x62 => if x62 = 0 then f_X11_face_86 x1 x3 x4 none else mix x2 (aLn 1101) <| f_X11_face_86 x1 x3 x4 (some x2.toNatClampNeg)
noncomputable def f_X11_face_27 (x1 : Int32) (x2 : Int32) (x3 : Int32) (x4 : Int32) : MM (Nat × Int32) :=
  if x2 = (-1) then f_X11_face_38 x1 x2 x3 x4 0 else f_X11_face_38 x1 x2 x3 x4 99
noncomputable def f_X11_face (x1 : Int32) (x2 : Int32) (x3 : Int32) (x4 : Int32) : MM (Nat × Int32) :=
  mb (f_X11_isSlot x1) fun x51 => if x51 = 0 then mthr 1 else if x2 = (-1) then f_X11_face_27 x1 x2 x3 x4 else mb (f_X11_isItem x2) fun x98 => if x98 = 0 then mthr 1 else f_X11_face_27 x1 x2 x3 x4
def f_X11_hasLotOrFace_50 : Nat → Nat → Int32 → Int32 → MM (Int32)
  | 0, _, _, _ => mfail
  | f + 1, i1, x3, x4 =>
    mrd fun S => if x3 ≤ x4 then mret 0 else mix x4 (aLn 1100) <| mbo (zO S 902 x4.toNatClampNeg) fun r64 => if r64 = (some i1) then mret 1 else f_X11_hasLotOrFace_50 f i1 x3 (x4 + 1)
noncomputable def f_X11_hasLotOrFace_2 : Nat → Nat → Int32 → MM (Int32)
  | 0, _, _ => mfail
  | f + 1, i1, x2 =>
    mrd fun S => mbo (nI (zL S 1103 0).length) fun x53 => if x53 ≤ x2 then mbo (nI (aLn 1100) : Int32) fun x58 => f_X11_hasLotOrFace_50 FU i1 x58 0 else mlget 1103 0 x2 fun i69 => mbo (zO S 501 i69) fun r73 => if r73 = (some i1) then mret 1 else f_X11_hasLotOrFace_2 f i1 (x2 + 1)
noncomputable def f_X11_hasLotOrFace (i1 : Nat) : MM (Int32) :=
  f_X11_hasLotOrFace_2 FU i1 0
def f_X11_held_37 : Nat → Int32 → Int32 → Int32 → Int32 → Int32 → MM (Nat × Int32)
  | 0, _, _, _, _, _ => mfail
  | f + 1, x1, x2, x3, x4, x5 =>
    mrd fun S => mbo (nI (zL S 1107 0).length) fun x62 => if x62 ≤ x5 then mret (0, x4) else mlget 1107 0 x5 fun i67 => mb (f_X2_turn i67) fun x71 => if x71 = x1 then mlget 1103 0 x3 fun i76 => mb (f_X2_isOf i67 x2 i76) fun x80 => mrd fun S81 => if x80 = 0 then f_X11_held_37 f x1 x2 x3 x4 (x5 + 1) else mbo (x4 + (zA S81 204 i67) : Int32) fun x83 => f_X11_held_37 f x1 x2 x3 x83 (x5 + 1) else f_X11_held_37 f x1 x2 x3 x4 (x5 + 1)
noncomputable def f_X11_held (x1 : Int32) (x2 : Int32) (x3 : Int32) : MM (Nat × Int32) :=
  mb (f_X11_isOrder x1) fun x51 => if x51 = 0 then mthr 1 else mb (f_X11_isSlot x2) fun x54 => if x54 = 0 then mthr 1 else mb (f_X11_isLot x3) fun x57 => if x57 = 0 then mthr 1 else f_X11_held_37 FU x1 x2 x3 0 0
def f_X11_holdingsForWave_4 : Nat → Int32 → Int32 → Int32 → MM (Int32)
  | 0, _, _, _ => mfail
  | f + 1, x1, x2, x3 =>
    mrd fun S => mbo (nI (zL S 1107 0).length) fun x53 => if x53 ≤ x3 then mret x2 else mlget 1107 0 x3 fun i58 => mb (f_X11_isForWave i58 x1) fun x62 => if x62 = 0 then f_X11_holdingsForWave_4 f x1 x2 (x3 + 1) else f_X11_holdingsForWave_4 f x1 (x2 + 1) (x3 + 1)
noncomputable def f_X11_holdingsForWave (x1 : Int32) : MM (Int32) :=
  f_X11_holdingsForWave_4 FU x1 0 0
def f_X11_lacks (x1 : Int32) (x2 : Int32) : MM (Nat × Int32) :=
  mb (f_X11_isOrder x1) fun x51 => mrd fun S52 => if x51 = 0 then mthr 1 else if x2 < 0 then mthr 1 else mlget 1106 0 x1 fun i57 => mgd (decide (i57 < zN S52 72)) (mbo (nI (zL S52 704 i57).length) fun x63 => if x2 < x63 then mlget 1106 0 x1 fun i68 => mgd (decide (i68 < zN S52 72)) (mlget 704 i68 x2 fun i74 => mb (f_X4_lacking i74) fun x78 => mret (0, x78)) else mthr 1)
def f_X11_nextForWave_7 : Nat → Int32 → Option Nat → Int32 → Int32 → MM (Option Nat)
  | 0, _, _, _, _ => mfail
  | f + 1, x1, r2, x3, x4 =>
    mrd fun S => mbo (nI (zL S 1107 0).length) fun x53 => if x53 ≤ x4 then mret r2 else mlget 1107 0 x4 fun i58 => mb (f_X11_turnInWave i58) fun x62 => mb (f_X11_isForWave i58 x1) fun x64 => if x64 = 0 then f_X11_nextForWave_7 f x1 r2 x3 (x4 + 1) else mcase r2 (f_X11_nextForWave_7 f x1 (some i58) x62 (x4 + 1)) fun i68 => if x3 ≤ x62 then f_X11_nextForWave_7 f x1 (some i68) x3 (x4 + 1) else f_X11_nextForWave_7 f x1 (some i58) x62 (x4 + 1)
noncomputable def f_X11_nextForWave (x1 : Int32) : MM (Option Nat) :=
  f_X11_nextForWave_7 FU x1 none 0 0
noncomputable def f_X11_pack_45 (K27 : Nat → Int32 → Int32 → MM (Unit)) : Nat → Nat → Int32 → Int32 → Int32 → Int32 → MM (Unit)
  | 0, _, _, _, _, _ => mfail
  | f + 1, i1, x2, x3, x5, x6 =>
    mrd fun S => if x5 ≤ x6 then K27 i1 x2 (x3 + (-1)) else mix x6 (aLn 1101) <| if (zA S 302 x6.toNatClampNeg) = x3 then mb (f_X11_piecesToPack i1 x6.toNatClampNeg) fun x63 => mb (f_X11_fillBoxes x6.toNatClampNeg x63 x2) fun w66 => f_X11_pack_45 K27 f i1 x2 x3 x5 (x6 + 1) else f_X11_pack_45 K27 f i1 x2 x3 x5 (x6 + 1)
noncomputable def f_X11_pack_27 : Nat → Nat → Int32 → Int32 → MM (Unit)
  | 0, _, _, _ => mfail
  | f + 1, i1, x2, x3 =>
    if x3 ≤ 0 then mret () else mbo (nI (aLn 1101) : Int32) fun x56 => f_X11_pack_45 (f_X11_pack_27 f) FU i1 x2 x3 x56 0
noncomputable def f_X11_pack_18 (i1 : Nat) (xs0 : Int32) : MM (Unit) :=
  wA 1114 0 0 <| f_X11_pack_27 FU i1 xs0 9
noncomputable def f_X11_pack (i1 : Nat) : MM (Unit) :=
  mrd fun S => if (zA S 705 i1) = 0 then f_X11_pack_18 i1 (zA S 1115 0) else f_X11_pack_18 i1 (zA S 706 i1)
def f_X11_piecesGoodFor_41 (K5 : Nat → Nat → Int32 → Int32 → MM (Int32)) : Nat → Nat → Nat → Int32 → Int32 → Int32 → MM (Int32)
  | 0, _, _, _, _, _ => mfail
  | f + 1, i1, i2, x3, x4, x5 =>
    if 18 ≤ x5 then K5 i1 i2 x3 (x4 + 1) else mb (f_X0_freePieces x5 x4) fun x68 => mbo (x3 + x68 : Int32) fun x70 => f_X11_piecesGoodFor_41 K5 f i1 i2 x70 x4 (x5 + 1)
noncomputable def f_X11_piecesGoodFor_5 : Nat → Nat → Nat → Int32 → Int32 → MM (Int32)
  | 0, _, _, _, _ => mfail
  | f + 1, i1, i2, x3, x4 =>
    mrd fun S => mbo (nI (zL S 1103 0).length) fun x53 => if x53 ≤ x4 then mret x3 else mlget 1103 0 x4 fun i58 => mb (f_X11_isGoodFor i1 i2 i58) fun x62 => if x62 = 0 then f_X11_piecesGoodFor_5 f i1 i2 x3 (x4 + 1) else f_X11_piecesGoodFor_41 (f_X11_piecesGoodFor_5 f) FU i1 i2 x3 x4 0
noncomputable def f_X11_piecesGoodFor (i1 : Nat) (i2 : Nat) : MM (Int32) :=
  f_X11_piecesGoodFor_5 FU i1 i2 0 0
def f_X11_piecesThatCame_67 (K31 : Int32 → Int32 → Option Nat → Int32 → Int32 → MM (Int32)) (x1 : Int32) (x2 : Int32) (r3 : Option Nat) (x4 : Int32) (x5 : Int32) (xs0 : Int32) : MM (Int32) :=
  mrd fun S => if xs0 = x2 then mbo (cAt S 1110 x1 x5) fun x77 => mbo (x4 + x77 : Int32) fun x79 => K31 x1 x2 r3 x79 (x5 + 1) else K31 x1 x2 r3 x4 (x5 + 1)
def f_X11_piecesThatCame_31 : Nat → Int32 → Int32 → Option Nat → Int32 → Int32 → MM (Int32)
  | 0, _, _, _, _, _ => mfail
  | f + 1, x1, x2, r3, x4, x5 =>
    mrd fun S => mbo (nI (zL S 1103 0).length) fun x63 => if x63 ≤ x5 then mret x4 else mlget 1103 0 x5 fun i68 => mbo (zO S 501 i68) fun r72 => if r72 = r3 then f_X11_piecesThatCame_67 (f_X11_piecesThatCame_31 f) x1 x2 r3 x4 x5 1 else f_X11_piecesThatCame_67 (f_X11_piecesThatCame_31 f) x1 x2 r3 x4 x5 0
noncomputable def f_X11_piecesThatCame (x1 : Int32) (x2 : Int32) : MM (Int32) :=
  mb (f_X11_isNotice x1) fun x51 => mrd fun S52 => if x51 = 0 then mret 0 else mlget 1105 0 x1 fun i56 => mbo (zO S52 600 i56) fun r60 => f_X11_piecesThatCame_31 FU x1 x2 r60 0 0
noncomputable def f_X11_slot (x1 : Int32) (x2 : Int32) (x3 : Int32) : MM (Nat × Int32) :=
  mb (f_X11_isSlot x1) fun x51 => if x51 = 0 then mthr 1 else mb (f_X11_isWithin x2 0 2) fun x54 => if x54 = 0 then mthr 2 else mb (f_X11_isWithin x3 1 200) fun x57 => mrd fun S58 => if x57 = 0 then mthr 2 else mix x1 (aLn 1100) <| mbo (zO S58 902 x1.toNatClampNeg) fun r65 => mcase r65 (mb (f_X11_isUsed x1) fun x68 => if x68 = 0 then mix x1 (aLn 1100) <| wA 900 x1.toNatClampNeg x2 <| mix x1 (aLn 1100) <| wA 901 x1.toNatClampNeg x3 <| mret (0, 0) else mthr 3) fun i67 => mthr 3
def f_X11_taskAt (x1 : Int32) : MM (Nat × Int32) :=
  mb (f_X11_isTask x1) fun x51 => mrd fun S52 => if x51 = 0 then mthr 1 else mlget 1108 0 x1 fun i56 => mret (0, (((1000 * (zA S52 1001 i56)) + (100 * (zA S52 1005 i56))) + (zA S52 1004 i56)))
def f_X7_init (i0 : Nat) (x1 : Int32) (x2 : Int32) (x3 : Int32) (x4 : Int32) : MM (Unit) :=
  mnl i0 <| wA 700 i0 x1 <| wA 701 i0 x2 <| mgd (decide (x3 = 0 ∨ x3 = 1)) <| wA 702 i0 x3 <| wA 703 i0 x4 <| mret ()
def f_X8_firstTask_40 (i0 : Nat) : MM (Option Nat) :=
  mrd fun S => mbo (if (zL S 800 i0).length = 0 then (1 : Int32) else 0) fun x58 => if x58 = 0 then mlget 800 i0 0 fun i63 => mret (some i63) else mret none
def f_X8_firstTask_0 : Nat → Nat → MM (Option Nat)
  | 0, _ => mfail
  | f + 1, i0 =>
    mrd fun S => mbo (if (zL S 800 i0).length = 0 then (1 : Int32) else 0) fun x53 => if x53 = 0 then mlget 800 i0 0 fun i69 => if (zA S 1005 i69) = 1 then f_X8_firstTask_40 i0 else mlrem 800 i0 0 fun i76 => f_X8_firstTask_0 f i0 else f_X8_firstTask_40 i0
noncomputable def f_X8_firstTask (i0 : Nat) : MM (Option Nat) :=
  f_X8_firstTask_0 FU i0
def f_X8_tasksInRow_4 : Nat → Nat → Int32 → Int32 → MM (Int32)
  | 0, _, _, _ => mfail
  | f + 1, i0, x1, x2 =>
    mrd fun S => mbo (nI (zL S 800 i0).length) fun x53 => if x53 ≤ x2 then mret x1 else mlget 800 i0 x2 fun i58 => if (zA S 1005 i58) = 1 then f_X8_tasksInRow_4 f i0 (x1 + 1) (x2 + 1) else f_X8_tasksInRow_4 f i0 x1 (x2 + 1)
noncomputable def f_X8_tasksInRow (i0 : Nat) : MM (Int32) :=
  f_X8_tasksInRow_4 FU i0 0 0
noncomputable def f_X11_boxAt (x1 : Int32) (x2 : Int32) : MM (Nat × Int32) :=
  mb (f_X11_isOrder x1) fun x51 => if x51 = 0 then mthr 1 else mlget 1106 0 x1 fun i56 => mb (f_X11_pack i56) fun w61 => mrd fun S61 => if x2 < 0 then mthr 1 else if x2 < (zA S61 1114 0) then mbo (cAt S61 1113 x2 1) fun x66 => mbo (cAt S61 1113 x2 2) fun x70 => mret (0, ((1000 * x66) + x70)) else mthr 1
noncomputable def f_X11_boxes (x1 : Int32) : MM (Nat × Int32) :=
  mb (f_X11_isOrder x1) fun x51 => if x51 = 0 then mthr 1 else mlget 1106 0 x1 fun i56 => mb (f_X11_pack i56) fun w61 => mrd fun S61 => mret (0, (zA S61 1114 0))
noncomputable def f_X11_canBeWhole_29 (K11 : Nat → Int32 → Int32 → MM (Int32)) : Nat → Nat → Int32 → Int32 → Option Nat → Int32 → Int32 → MM (Int32)
  | 0, _, _, _, _, _, _ => mfail
  | f + 1, i1, x3, x4, r5, x6, x7 =>
    mrd fun S => mgd (decide (i1 < zN S 72)) (mbo (nI (zL S 704 i1).length) fun x60 => if x60 ≤ x7 then mopt r5 fun i63 => mb (f_X11_piecesGoodFor i1 i63) fun x64 => if x6 ≤ x64 then K11 i1 x3 (x4 + 1) else mret 0 else mgd (decide (i1 < zN S 72)) (mlget 704 i1 x7 fun i69 => mbo (zO S 400 i69) fun r73 => if r73 = r5 then mgd (decide (i1 < zN S 72)) (mlget 704 i1 x7 fun i78 => mb (f_X4_lacking i78) fun x82 => mbo (x6 + x82 : Int32) fun x84 => f_X11_canBeWhole_29 K11 f i1 x3 x4 r5 x84 (x7 + 1)) else mbo (x6 + 0 : Int32) fun x75 => f_X11_canBeWhole_29 K11 f i1 x3 x4 r5 x75 (x7 + 1)))
noncomputable def f_X11_canBeWhole_11 : Nat → Nat → Int32 → Int32 → MM (Int32)
  | 0, _, _, _ => mfail
  | f + 1, i1, x3, x4 =>
    if x3 ≤ x4 then mret 1 else mix x4 (aLn 1101) <| f_X11_canBeWhole_29 (f_X11_canBeWhole_11 f) FU i1 x3 x4 (some x4.toNatClampNeg) 0 0
noncomputable def f_X11_canBeWhole (i1 : Nat) : MM (Int32) :=
  mbo (nI (aLn 1101) : Int32) fun x53 => f_X11_canBeWhole_11 FU i1 x53 0
noncomputable def f_X11_close (x1 : Int32) : MM (Nat × Int32) :=
  mb (f_X11_isNotice x1) fun x51 => mrd fun S52 => if x51 = 0 then mthr 1 else mlget 1105 0 x1 fun i56 => if (zA S52 602 i56) = 0 then wA 602 i56 1 <| mb (f_X11_piecesThatCame x1 1) fun x62 => mrd fun S63 => mret (0, (x62 - (zA S63 601 i56))) else mthr 3
def f_X11_comeBack (x1 : Int32) (x2 : Int32) (x3 : Int32) : MM (Nat × Int32) :=
  mb (f_X11_isOrder x1) fun x51 => if x51 = 0 then mthr 1 else mb (f_X11_isLot x2) fun x54 => if x54 = 0 then mthr 1 else mb (f_X11_isWithin x3 1 99) fun x57 => mrd fun S58 => if x57 = 0 then mthr 2 else mbo (cAt S58 1111 x1 x2) fun x62 => if x3 ≤ x62 then madd 1111 x1 x2 (-x3) <| mlget 1103 0 x2 fun i72 => mb (f_X0_move (-1) 19 i72 x3) fun w78 => mrd fun S78 => wA 1118 0 ((zA S78 1118 0) + (2 * x3)) <| mrd fun S85 => mbo (cAt S85 0 19 x2) fun x90 => mret (0, x90) else mthr 3
noncomputable def f_X11_doing (x1 : Int32) : MM (Nat × Int32) :=
  mb (f_X11_isRobot x1) fun x51 => if x51 = 0 then mthr 1 else mix x1 (aLn 1102) <| mb (f_X8_firstTask x1.toNatClampNeg) fun r59 => mrd fun S60 => mcase r59 (mret (0, (-1))) fun i62 => mret (0, (zA S60 1000 i62))
noncomputable def f_X11_finish (i1 : Nat) : MM (Unit) :=
  mrd fun S => mbo (zO S 1002 i1) fun r51 => mopt r51 fun i53 => mbo (zO S 203 i53) fun r54 => mopt r54 fun i55 => mb (f_X0_move (zA S 202 i53) (zA S 1003 i1) i55 (zA S 1004 i1)) fun w58 => mrd fun S58 => mb (f_X11_release i53 (zA S58 204 i53)) fun w66 => mb (f_X11_dropEmptyHoldings ) fun w68 => wA 1005 i1 2 <| mrd fun S69 => if (zA S69 1001 i1) = 0 then wA 1118 0 ((zA S69 1118 0) + 3) <| mret () else if (zA S69 1001 i1) = 1 then wA 1118 0 ((zA S69 1118 0) + 4) <| mret () else wA 1118 0 ((zA S69 1118 0) + (1 * (zA S69 1004 i1))) <| mrd fun S72 => mbo (zO S72 201 i53) fun r73 => mcase r73 (mret ()) fun i75 => mbo (zO S72 201 i53) fun r76 => mopt r76 fun i77 => wA 403 i77 ((zA S72 403 i77) + (zA S72 1004 i1)) <| mret ()
noncomputable def f_X11_item (x1 : Int32) (x2 : Int32) (x3 : Int32) (x4 : Int32) (x5 : Int32) (x6 : Int32) : MM (Nat × Int32) :=
  mb (f_X11_isItem x1) fun x51 => if x51 = 0 then mthr 1 else mb (f_X11_isGroup x5) fun x54 => if x54 = 0 then mthr 1 else mb (f_X11_isWithin x2 0 2) fun x57 => if x57 = 0 then mthr 2 else mb (f_X11_isWithin x3 1 9) fun x60 => if x60 = 0 then mthr 2 else mb (f_X11_isWithin x4 1 20) fun x63 => if x63 = 0 then mthr 2 else mb (f_X11_isWithin x6 1 12) fun x66 => if x66 = 0 then mthr 2 else mix x1 (aLn 1101) <| mb (f_X11_hasLotOrFace x1.toNatClampNeg) fun x74 => if x74 = 0 then mix x1 (aLn 1101) <| wA 301 x1.toNatClampNeg x2 <| mix x1 (aLn 1101) <| wA 302 x1.toNatClampNeg x3 <| mix x1 (aLn 1101) <| wA 303 x1.toNatClampNeg x4 <| mix x1 (aLn 1101) <| wA 304 x1.toNatClampNeg x5 <| mix x1 (aLn 1101) <| wA 305 x1.toNatClampNeg x6 <| mret (0, 0) else mthr 3
def f_X11_judge_75 (x1 : Int32) (x2 : Int32) (xs1 : Int32) (xs2 : Int32) : MM (Nat × Int32) :=
  mlget 1103 0 x1 fun i68 => mb (f_X0_move xs1 xs2 i68 x2) fun w74 => mrd fun S74 => mbo (cAt S74 0 19 x1) fun x85 => mret (0, x85)
def f_X11_judge (x1 : Int32) (x2 : Int32) (x3 : Int32) : MM (Nat × Int32) :=
  mb (f_X11_isLot x1) fun x51 => if x51 = 0 then mthr 1 else mb (f_X11_isWithin x2 1 99) fun x54 => mrd fun S55 => if x54 = 0 then mthr 2 else mbo (cAt S55 0 19 x1) fun x61 => if x2 ≤ x61 then if x3 = 0 then f_X11_judge_75 x1 x2 19 (-1) else f_X11_judge_75 x1 x2 19 18 else mthr 3
def f_X11_letGo_52 (K2 : Option Nat → Option Nat → Int32 → MM (Unit)) (r1 : Option Nat) (r2 : Option Nat) (x3 : Int32) (i4 : Nat) : MM (Unit) :=
  mrd fun S => mb (f_X11_release i4 (zA S 204 i4)) fun w70 => mrd fun S70 => mbo (zO S70 205 i4) fun r71 => mcase r71 (K2 r1 r2 (x3 + 1)) fun i73 => mbo (zO S70 205 i4) fun r74 => mopt r74 fun i75 => wA 1005 i75 3 <| K2 r1 r2 (x3 + 1)
noncomputable def f_X11_letGo_2 : Nat → Option Nat → Option Nat → Int32 → MM (Unit)
  | 0, _, _, _ => mfail
  | f + 1, r1, r2, x3 =>
    mrd fun S => mbo (nI (zL S 1107 0).length) fun x53 => if x53 ≤ x3 then mb (f_X11_dropEmptyHoldings ) fun w57 => mret () else mlget 1107 0 x3 fun i60 => mbo (zO S 200 i60) fun r64 => mcase r64 (f_X11_letGo_2 f r1 r2 (x3 + 1)) fun i66 => mbo (zO S 200 i60) fun r67 => if r67 = r1 then f_X11_letGo_52 (f_X11_letGo_2 f) r1 r2 x3 i60 else mbo (zO S 203 i60) fun r77 => if r77 = r2 then f_X11_letGo_52 (f_X11_letGo_2 f) r1 r2 x3 i60 else f_X11_letGo_2 f r1 r2 (x3 + 1)
noncomputable def f_X11_letGo (r1 : Option Nat) (r2 : Option Nat) : MM (Unit) :=
  f_X11_letGo_2 FU r1 r2 0
noncomputable def f_X11_others (x1 : Int32) : MM (Nat × Int32) :=
  mb (f_X11_isNotice x1) fun x51 => if x51 = 0 then mthr 1 else mb (f_X11_piecesThatCame x1 0) fun x54 => mret (0, x54)
def f_X11_receive (x1 : Int32) (x2 : Int32) (x3 : Int32) : MM (Nat × Int32) :=
  mb (f_X11_isNotice x1) fun x51 => if x51 = 0 then mthr 1 else mb (f_X11_isLot x2) fun x54 => if x54 = 0 then mthr 1 else mb (f_X11_isWithin x3 1 99) fun x57 => mrd fun S58 => if x57 = 0 then mthr 2 else mlget 1105 0 x1 fun i62 => if (zA S58 602 i62) = 0 then madd 1110 x1 x2 x3 <| mlget 1103 0 x2 fun i74 => mb (f_X0_move (-1) 18 i74 x3) fun w80 => mrd fun S80 => wA 1118 0 ((zA S80 1118 0) + (2 * x3)) <| mrd fun S87 => mbo (cAt S87 0 18 x2) fun x92 => mret (0, x92) else mthr 3
def f_X11_sendStand_4 : Nat → Int32 → Int32 → Int32 → MM (Int32)
  | 0, _, _, _ => mfail
  | f + 1, x1, x2, x3 =>
    mrd fun S => mbo (nI (zL S 1103 0).length) fun x53 => if x53 ≤ x3 then mret x2 else mlget 1103 0 x3 fun i58 => mbo (cAt S 0 (20 + x1) x3) fun x66 => mbo (zO S 501 i58) fun r69 => mopt r69 fun i70 => madd 1112 x1 (zA S 300 i70) x66 <| madd 1111 x1 x3 x66 <| mb (f_X0_move (20 + x1) (-1) i58 x66) fun w81 => mbo (x2 + x66 : Int32) fun x88 => f_X11_sendStand_4 f x1 x88 (x3 + 1)
noncomputable def f_X11_sendStand (x1 : Int32) : MM (Int32) :=
  f_X11_sendStand_4 FU x1 0 0
def f_X11_shorten_55 (K45 : Int32 → Nat → Option Nat → Int32 → Int32 → MM (Unit)) : Nat → Int32 → Nat → Option Nat → Int32 → Int32 → Int32 → MM (Unit)
  | 0, _, _, _, _, _, _ => mfail
  | f + 1, x1, i2, r3, x4, x5, x6 =>
    mrd fun S => mbo (nI (zL S 1107 0).length) fun x74 => if x74 ≤ x6 then K45 x1 i2 r3 x4 (x5 + 1) else mlget 1107 0 x6 fun i79 => if (some i79) = r3 then f_X11_shorten_55 K45 f x1 i2 r3 x4 x5 (x6 + 1) else mb (f_X2_turn i79) fun x84 => if x84 = x5 then mb (f_X2_isOf i79 x1 i2) fun x87 => if x87 = 0 then f_X11_shorten_55 K45 f x1 i2 r3 x4 x5 (x6 + 1) else mb (f_X11_cut i79 x4) fun x90 => mbo (x4 - x90 : Int32) fun x92 => f_X11_shorten_55 K45 f x1 i2 r3 x92 x5 (x6 + 1) else f_X11_shorten_55 K45 f x1 i2 r3 x4 x5 (x6 + 1)
noncomputable def f_X11_shorten_45 : Nat → Int32 → Nat → Option Nat → Int32 → Int32 → MM (Unit)
  | 0, _, _, _, _, _ => mfail
  | f + 1, x1, i2, r3, x4, x5 =>
    if 8 < x5 then mb (f_X11_dropEmptyHoldings ) fun w71 => mret () else f_X11_shorten_55 (f_X11_shorten_45 f) FU x1 i2 r3 x4 x5 0
noncomputable def f_X11_shorten (x1 : Int32) (i2 : Nat) (r3 : Option Nat) : MM (Unit) :=
  mb (f_X0_believeTruth x1 i2) fun w54 => mrd fun S54 => mbo (cAt S54 0 x1 (zA S54 500 i2)) fun x65 => mcase r3 (f_X11_shorten_45 FU x1 i2 none x65 0) fun i68 => mb (f_X11_cut i68 x65) fun x95 => mbo (x65 - x95 : Int32) fun x97 => f_X11_shorten_45 FU x1 i2 (some i68) x97 0
noncomputable def f_X11_slotToPutInto_8 : Nat → Nat → Int32 → Int32 → Int32 → Int32 → MM (Int32)
  | 0, _, _, _, _, _ => mfail
  | f + 1, i1, x2, x3, x4, x5 =>
    mrd fun S => if (nI (aLn 1100)) ≤ x5 then mret x3 else mbo (zO S 501 i1) fun r54 => mopt r54 fun i55 => mb (f_X11_canTake x5 i55 x2) fun x56 => if x56 = 0 then f_X11_slotToPutInto_8 f i1 x2 x3 x4 (x5 + 1) else mb (f_X11_strangeness x5 i1) fun x59 => mb (f_X11_freeRoom x5) fun x61 => mbo ((x59 * 201) + x61 : Int32) fun x63 => if x3 = (-1) then f_X11_slotToPutInto_8 f i1 x2 x5 x63 (x5 + 1) else if x4 ≤ x63 then f_X11_slotToPutInto_8 f i1 x2 x3 x4 (x5 + 1) else f_X11_slotToPutInto_8 f i1 x2 x5 x63 (x5 + 1)
noncomputable def f_X11_slotToPutInto (i1 : Nat) (x2 : Int32) : MM (Int32) :=
  f_X11_slotToPutInto_8 FU i1 x2 (-1) 0 0
def f_X11_count_144 (x3 : Int32) : MM (Nat × Int32) :=
  mrd fun S => wA 1118 0 ((zA S 1118 0) + 6) <| mret (0, x3)
def f_X11_count_107 (x1 : Int32) (x2 : Int32) (x3 : Int32) (x5 : Int32) : MM (Nat × Int32) :=
  if x5 = 0 then mb (f_X0_keepDoubt x1 x2 x3) fun w75 => f_X11_count_144 x3 else mlget 1103 0 x2 fun i80 => mb (f_X0_believeTruth x1 i80) fun w86 => f_X11_count_144 x3
noncomputable def f_X11_count_74 (x1 : Int32) (x2 : Int32) (x3 : Int32) (x4 : Int32) (xs0 : Int32) : MM (Nat × Int32) :=
  if xs0 = 0 then f_X11_count_107 x1 x2 x3 xs0 else if x4 ≤ x3 then f_X11_count_107 x1 x2 x3 xs0 else mlget 1103 0 x2 fun i96 => mb (f_X11_shorten x1 i96 none) fun w101 => f_X11_count_144 x3
noncomputable def f_X11_count_73 (x1 : Int32) (x2 : Int32) (x3 : Int32) (x4 : Int32) : MM (Nat × Int32) :=
  f_X11_count_74 x1 x2 x3 x4 0
noncomputable def f_X11_count (x1 : Int32) (x2 : Int32) : MM (Nat × Int32) :=
  mb (f_X11_isSlot x1) fun x51 => if x51 = 0 then mthr 1 else mb (f_X11_isLot x2) fun x54 => mrd fun S55 => if x54 = 0 then mthr 1 else mbo (cAt S55 2 x1 x2) fun x61 => mbo (cAt S55 0 x1 x2) fun x67 => if x61 = x67 then f_X11_count_73 x1 x2 x61 x67 else mb (f_X0_isDoubted x1 x2 x61) fun x110 => if x110 = 0 then f_X11_count_73 x1 x2 x61 x67 else f_X11_count_74 x1 x2 x61 x67 1
noncomputable def f_X11_doStationInSlot_76 (i1 : Nat) : MM (Unit) :=
  mb (f_X11_finish i1) fun w55 => mret ()
noncomputable def f_X11_doStationInSlot_53 (i1 : Nat) : MM (Unit) :=
  mrd fun S => if (zA S 1001 i1) = 1 then if (zA S 1006 i1) = 0 then wA 1006 i1 1 <| mret () else f_X11_doStationInSlot_76 i1 else f_X11_doStationInSlot_76 i1
noncomputable def f_X11_doStationInSlot (i1 : Nat) : MM (Unit) :=
  mrd fun S => mbo (zO S 1002 i1) fun r51 => if (zA S 1006 i1) = 0 then mopt r51 fun i67 => mbo (zO S 203 i67) fun r68 => mopt r68 fun i69 => mbo (cAt S 2 (zA S 202 i67) (zA S 500 i69)) fun x71 => if (zA S 1004 i1) ≤ x71 then f_X11_doStationInSlot_53 i1 else mbo (zO S 203 i67) fun r74 => mopt r74 fun i75 => mb (f_X11_shorten (zA S 202 i67) i75 (some i67)) fun w77 => f_X11_doStationInSlot_53 i1 else f_X11_doStationInSlot_53 i1
def f_X11_recall_59 : Nat → Int32 → Int32 → Int32 → MM (Nat × Int32)
  | 0, _, _, _ => mfail
  | f + 1, x1, x3, x4 =>
    mrd fun S => mbo (nI (zL S 1106 0).length) fun x66 => if x66 ≤ x4 then mret (0, x3) else mbo (cAt S 1111 x4 x1) fun x71 => mbo (x3 + x71 : Int32) fun x73 => f_X11_recall_59 f x1 x73 (x4 + 1)
noncomputable def f_X11_recall (x1 : Int32) : MM (Nat × Int32) :=
  mb (f_X11_isLot x1) fun x51 => mrd fun S52 => if x51 = 0 then mthr 1 else mlget 1103 0 x1 fun i56 => if (zA S52 503 i56) = 0 then wA 503 i56 1 <| mb (f_X11_letGo none (some i56)) fun w63 => f_X11_recall_59 FU x1 0 0 else mthr 3
noncomputable def f_X11_send (x1 : Int32) : MM (Nat × Int32) :=
  mb (f_X11_isOrder x1) fun x51 => mrd fun S52 => if x51 = 0 then mthr 1 else mlget 1106 0 x1 fun i56 => if (zA S52 705 i56) = 0 then mb (f_X11_letGo (some i56) none) fun w62 => mb (f_X11_pack i56) fun w64 => mrd fun S64 => wA 1118 0 ((zA S64 1118 0) + (5 * (zA S64 1114 0))) <| wA 705 i56 1 <| mrd fun S66 => wA 706 i56 (zA S66 1115 0) <| mb (f_X11_sendStand x1) fun x68 => mret (0, x68) else mthr 3
def f_X11_act_132 (is0 : Nat) (xs1 : Int32) (xs2 : Int32) : MM (Unit) :=
  wA 802 is0 (xs1 + xs2) <| mret ()
noncomputable def f_X11_act_104 (i1 : Nat) (x4 : Int32) (x5 : Int32) : MM (Unit) :=
  mrd fun S => if (zA S 801 i1) = x4 then if x5 ≤ (zA S 802 i1) then f_X11_act_132 i1 (zA S 802 i1) (-1) else f_X11_act_132 i1 (zA S 802 i1) 1 else mb (f_X11_robotIn x4) fun r64 => mcase r64 (wA 801 i1 x4 <| wA 802 i1 0 <| mret ()) fun i67 => wA 803 i1 x4 <| mret ()
noncomputable def f_X11_act_66 (i1 : Nat) (r2 : Option Nat) (x3 : Int32) (x4 : Int32) (x5 : Int32) : MM (Unit) :=
  mrd fun S => if x3 = (-1) then mb (f_X8_goToFront i1) fun w84 => mret () else if (zA S 801 i1) = x4 then if (zA S 802 i1) = x5 then mopt r2 fun i74 => mb (f_X11_doStationInSlot i74) fun w76 => mret () else f_X11_act_104 i1 x4 x5 else f_X11_act_104 i1 x4 x5
noncomputable def f_X11_act_37 (i1 : Nat) (r2 : Option Nat) (x3 : Int32) (xs0 : Int32) : MM (Unit) :=
  mrd fun S => mbo (x3 - x3 / 6 * 6 : Int32) fun x59 => if x3 = (-1) then if (zA S 801 i1) = (-1) then mopt r2 fun i86 => wA 1006 i86 1 <| mret () else f_X11_act_66 i1 r2 x3 xs0 x59 else f_X11_act_66 i1 r2 x3 xs0 x59
noncomputable def f_X11_act (i1 : Nat) : MM (Unit) :=
  wA 803 i1 (-1) <| mb (f_X8_firstTask i1) fun r52 => mcase r52 (mb (f_X8_goToFront i1) fun w89 => mret ()) fun i55 => mb (f_X10_nextStation i55) fun x56 => if x56 = (-1) then f_X11_act_37 i1 (some i55) x56 (-1) else f_X11_act_37 i1 (some i55) x56 (x56 / 6)
def f_X11_hold (r1 : Option Nat) (r2 : Option Nat) (x3 : Int32) (i4 : Nat) (x5 : Int32) : MM (Option Nat) :=
  mnew 2 6 fun i56 => mb (f_X2_init i56 r1 r2 x3 i4 x5) fun w58 => mladd 1107 0 i56 <| mrd fun S62 => madd 3 x3 (zA S62 500 i4) x5 <| mrd fun S74 => mcase r2 (mret (some i56)) fun i76 => wA 402 i76 ((zA S74 402 i76) + x5) <| mret (some i56)
def f_X11_line (x1 : Int32) (x2 : Int32) (x3 : Int32) : MM (Nat × Int32) :=
  mb (f_X11_isOrder x1) fun x51 => if x51 = 0 then mthr 1 else mb (f_X11_isItem x2) fun x54 => if x54 = 0 then mthr 1 else mb (f_X11_isWithin x3 1 99) fun x57 => mrd fun S58 => if x57 = 0 then mthr 2 else mlget 1106 0 x1 fun i62 => mgd (decide (i62 < zN S58 72)) (mbo (nI (zL S58 704 i62).length) fun x68 => if 3 ≤ x68 then mthr 3 else if (zA S58 705 i62) = 0 then mgd (decide (i62 < zN S58 72)) (mnew 4 4 fun i78 => mix x2 (aLn 1101) <| mb (f_X4_init i78 x2.toNatClampNeg x3) fun w85 => mladd 704 i62 i78 <| mrd fun S88 => mgd (decide (i62 < zN S88 72)) (mbo (nI (zL S88 704 i62).length) fun x97 => mret (0, x97))) else mthr 3)
def f_X11_lot_116 (i3 : Nat) (x4 : Int32) : MM (Nat × Int32) :=
  mlins 1104 0 x4 i3 <| mladd 1103 0 i3 <| mrd fun S97 => mret (0, (zA S97 500 i3))
def f_X11_lot_79 : Nat → Int32 → Nat → Int32 → MM (Nat × Int32)
  | 0, _, _, _ => mfail
  | f + 1, x2, i3, x4 =>
    mrd fun S => mbo (nI (zL S 1104 0).length) fun x81 => if x81 ≤ x4 then f_X11_lot_116 i3 x4 else mlget 1104 0 x4 fun i106 => if x2 < (zA S 502 i106) then f_X11_lot_116 i3 x4 else f_X11_lot_79 f x2 i3 (x4 + 1)
noncomputable def f_X11_lot (x1 : Int32) (x2 : Int32) : MM (Nat × Int32) :=
  mb (f_X11_isItem x1) fun x51 => if x51 = 0 then mthr 1 else mb (f_X11_isWithin x2 0 9999) fun x54 => mrd fun S55 => if x54 = 0 then mthr 2 else mbo (nI (zL S55 1103 0).length) fun x59 => if x59 < 12 then mnew 5 4 fun i67 => mrd fun S67 => mbo (nI (zL S67 1103 0).length) fun x70 => mix x1 (aLn 1101) <| mb (f_X5_init i67 x70 x1.toNatClampNeg x2) fun w78 => f_X11_lot_79 FU x2 i67 0 else mthr 3
def f_X11_makeTask (x1 : Int32) (i2 : Nat) (x3 : Int32) : MM (Option Nat) :=
  mnew 10 7 fun i56 => mrd fun S56 => mbo (nI (zL S56 1108 0).length) fun x59 => mb (f_X10_init i56 x59 x1 i2 x3) fun w62 => mladd 1108 0 i56 <| wO 205 i2 (some i56) <| mrd fun S73 => if x1 = 2 then mret (some i56) else mbo (zO S73 203 i2) fun r78 => mopt r78 fun i79 => mbo (zO S73 501 i79) fun r80 => mopt r80 fun i81 => madd 4 x3 (zA S73 300 i81) (zA S73 204 i2) <| mret (some i56)
def f_X11_notice (x1 : Int32) (x2 : Int32) : MM (Nat × Int32) :=
  mb (f_X11_isItem x1) fun x51 => if x51 = 0 then mthr 1 else mb (f_X11_isWithin x2 1 99) fun x54 => mrd fun S55 => if x54 = 0 then mthr 2 else mbo (nI (zL S55 1105 0).length) fun x59 => if x59 < 8 then mnew 6 3 fun i68 => mix x1 (aLn 1101) <| mb (f_X6_init i68 x1.toNatClampNeg x2) fun w75 => mladd 1105 0 i68 <| mrd fun S78 => mbo (nI (zL S78 1105 0).length) fun x87 => mret (0, (x87 - 1)) else mthr 3
def f_X11_order (x1 : Int32) (x2 : Int32) (x3 : Int32) : MM (Nat × Int32) :=
  mb (f_X11_isWithin x1 0 9) fun x51 => if x51 = 0 then mthr 2 else mb (f_X11_isWithin x3 0 999) fun x54 => mrd fun S55 => if x54 = 0 then mthr 2 else mbo (nI (zL S55 1106 0).length) fun x59 => if x59 < 8 then mnew 7 7 fun i68 => mrd fun S68 => mbo (nI (zL S68 1106 0).length) fun x71 => mb (f_X7_init i68 x71 x1 x2 x3) fun w74 => mladd 1106 0 i68 <| mrd fun S83 => mbo (nI (zL S83 1106 0).length) fun x92 => mret (0, (x92 - 1)) else mthr 3
def f_X8_take (i0 : Nat) (i1 : Nat) : MM (Unit) :=
  wA 1005 i1 1 <| mladd 800 i0 i1 <| mret ()
noncomputable def f_X11_give (x1 : Int32) (x2 : Int32) : MM (Nat × Int32) :=
  mb (f_X11_isRobot x1) fun x51 => if x51 = 0 then mthr 1 else mb (f_X11_isTask x2) fun x54 => mrd fun S55 => if x54 = 0 then mthr 1 else mlget 1108 0 x2 fun i59 => if (zA S55 1005 i59) = 0 then mix x1 (aLn 1102) <| mlget 1108 0 x2 fun i70 => mb (f_X8_take x1.toNatClampNeg i70) fun w76 => mix x1 (aLn 1102) <| mb (f_X8_tasksInRow x1.toNatClampNeg) fun x88 => mret (0, x88) else mthr 3
def f_X11_holdInSlots_60 (K3 : Nat → Nat → Nat → Int32 → Int32 → MM (Unit)) (i1 : Nat) (i2 : Nat) (i3 : Nat) (x4 : Int32) (x5 : Int32) (x6 : Int32) (xs0 : Int32) : MM (Unit) :=
  if xs0 = x4 then if x6 ≤ 0 then K3 i1 i2 i3 x4 (x5 + 1) else mb (f_X11_hold (some i1) (some i2) x5 i3 x6) fun r74 => K3 i1 i2 i3 x4 (x5 + 1) else K3 i1 i2 i3 x4 (x5 + 1)
def f_X11_holdInSlots_3 : Nat → Nat → Nat → Nat → Int32 → Int32 → MM (Unit)
  | 0, _, _, _, _, _ => mfail
  | f + 1, i1, i2, i3, x4, x5 =>
    if (nI (aLn 1100)) ≤ x5 then mret () else mb (f_X4_lacking i2) fun x54 => if x54 ≤ 0 then mret () else mb (f_X4_lacking i2) fun x57 => mrd fun S58 => mb (f_X0_freePieces x5 (zA S58 500 i3)) fun x61 => mrd fun S62 => mbo ((if x61 < x57 then x61 else x57) : Int32) fun x63 => mix x5 (aLn 1100) <| mbo (zO S62 902 x5.toNatClampNeg) fun r69 => mcase r69 (f_X11_holdInSlots_60 (f_X11_holdInSlots_3 f) i1 i2 i3 x4 x5 x63 0) fun i71 => f_X11_holdInSlots_60 (f_X11_holdInSlots_3 f) i1 i2 i3 x4 x5 x63 1
noncomputable def f_X11_holdInSlots (i1 : Nat) (i2 : Nat) (i3 : Nat) (x4 : Int32) : MM (Unit) :=
  f_X11_holdInSlots_3 FU i1 i2 i3 x4 0
noncomputable def f_X11_pass_47 (K20 : Int32 → Int32 → MM (Nat × Int32)) : Nat → Int32 → Int32 → Int32 → Int32 → MM (Nat × Int32)
  | 0, _, _, _, _ => mfail
  | f + 1, x1, x2, x4, x5 =>
    if x4 ≤ x5 then mb (f_X11_undoStandstill ) fun w61 => K20 x1 (x2 + 1) else mix x5 (aLn 1102) <| mb (f_X11_act x5.toNatClampNeg) fun w67 => f_X11_pass_47 K20 f x1 x2 x4 (x5 + 1)
noncomputable def f_X11_pass_20 : Nat → Int32 → Int32 → MM (Nat × Int32)
  | 0, _, _ => mfail
  | f + 1, x1, x2 =>
    mrd fun S => if x1 ≤ x2 then mret (0, (zA S 1116 0)) else wA 1116 0 ((zA S 1116 0) + 1) <| mbo (nI (aLn 1102) : Int32) fun x58 => f_X11_pass_47 (f_X11_pass_20 f) FU x1 x2 x58 0
noncomputable def f_X11_pass (x1 : Int32) : MM (Nat × Int32) :=
  mb (f_X11_isWithin x1 1 50) fun x51 => if x51 = 0 then mthr 2 else f_X11_pass_20 FU x1 0
noncomputable def f_X11_putAway (x1 : Int32) (x2 : Int32) : MM (Nat × Int32) :=
  mb (f_X11_isLot x1) fun x51 => if x51 = 0 then mthr 1 else mb (f_X11_isWithin x2 1 99) fun x54 => if x54 = 0 then mthr 2 else mb (f_X0_freePieces 18 x1) fun x59 => mrd fun S60 => if x59 < x2 then mthr 3 else mbo (nI (zL S60 1108 0).length) fun x64 => if x64 < 60 then mlget 1103 0 x1 fun i69 => mb (f_X11_slotToPutInto i69 x2) fun x73 => if x73 = (-1) then mret (0, x73) else mb (f_X11_hold none none 18 i69 x2) fun r76 => mopt r76 fun i84 => mb (f_X11_makeTask 0 i84 x73) fun r85 => mret (0, x73) else mthr 3
def f_X11_refillFace_210 (x9 : Int32) : MM (Int32) :=
  if x9 ≤ 0 then mret 0 else mret 1
noncomputable def f_X11_refillFace_125 (K72 : Int32 → Nat → Option Nat → Int32 → Int32 → MM (Int32)) (x1 : Int32) (i2 : Nat) (r3 : Option Nat) (x4 : Int32) (x5 : Int32) (i6 : Nat) (xs0 : Int32) : MM (Int32) :=
  mrd fun S => if xs0 = (-1) then K72 x1 i2 r3 x4 (x5 + 1) else mb (f_X0_freePieces xs0 (zA S 500 i6)) fun x86 => mbo ((if x86 < ((zA S 904 i2) - x4) then x86 else ((zA S 904 i2) - x4)) : Int32) fun x88 => mb (f_X11_freeRoom x1) fun x89 => mrd fun S90 => mopt r3 fun i91 => mgd (decide (¬ (zA S90 302 i91) = 0)) <| mgd (decide (¬ (zA S90 305 i91) = 0)) <| mbo ((if (x89 / (zA S90 302 i91)) < x88 then (x89 / (zA S90 302 i91)) else x88) / (zA S90 305 i91) : Int32) fun x94 => if x94 ≤ 0 then f_X11_refillFace_210 x94 else mb (f_X11_hold none none xs0 i6 (x94 * (zA S90 305 i91))) fun r97 => mopt r97 fun i105 => mb (f_X11_makeTask 1 i105 x1) fun r106 => f_X11_refillFace_210 x94
noncomputable def f_X11_refillFace_124 (K72 : Int32 → Nat → Option Nat → Int32 → Int32 → MM (Int32)) (x1 : Int32) (i2 : Nat) (r3 : Option Nat) (x4 : Int32) (x5 : Int32) (i6 : Nat) : MM (Int32) :=
  f_X11_refillFace_125 K72 x1 i2 r3 x4 x5 i6 (-1)
noncomputable def f_X11_refillFace_72 : Nat → Int32 → Nat → Option Nat → Int32 → Int32 → MM (Int32)
  | 0, _, _, _, _, _ => mfail
  | f + 1, x1, i2, r3, x4, x5 =>
    mrd fun S => mbo (nI (zL S 1104 0).length) fun x72 => if x72 ≤ x5 then mret 0 else mlget 1104 0 x5 fun i77 => mbo (zO S 501 i77) fun r81 => if r81 = r3 then if (zA S 503 i77) = 0 then mb (f_X11_slotToRefillFrom i77) fun x115 => f_X11_refillFace_125 (f_X11_refillFace_72 f) x1 i2 r3 x4 x5 i77 x115 else f_X11_refillFace_124 (f_X11_refillFace_72 f) x1 i2 r3 x4 x5 i77 else f_X11_refillFace_124 (f_X11_refillFace_72 f) x1 i2 r3 x4 x5 i77
noncomputable def f_X11_refillFace (x1 : Int32) (i2 : Nat) : MM (Int32) :=
  mrd fun S => mbo (zO S 902 i2) fun r51 => mcase r51 (mret 0) fun i53 => if (zA S 302 i53) ≤ 0 then mret 0 else if 0 < (zA S 305 i53) then mbo (cAt S 1 x1 (zA S 300 i53)) fun x60 => mbo (cAt S 4 x1 (zA S 300 i53)) fun x66 => mbo (x60 + x66 : Int32) fun x68 => if x68 < (zA S 903 i2) then f_X11_refillFace_72 FU x1 i2 (some i53) x68 0 else mret 0 else mret 0
noncomputable def f_X11_wave_65 : Nat → Int32 → Int32 → Int32 → Int32 → MM (Nat × Int32)
  | 0, _, _, _, _ => mfail
  | f + 1, x1, x2, x3, x4 =>
    if x3 ≤ x4 then mret (0, x3) else mb (f_X11_nextForWave x2) fun r65 => mcase r65 (f_X11_wave_65 f x1 x2 x3 (x4 + 1)) fun i68 => mix x1 (aLn 1102) <| mb (f_X2_turn i68) fun x73 => mb (f_X11_makeTask 2 i68 (20 + x73)) fun r75 => mopt r75 fun i83 => mb (f_X8_take x1.toNatClampNeg i83) fun w86 => f_X11_wave_65 f x1 x2 x3 (x4 + 1)
noncomputable def f_X11_wave (x1 : Int32) (x2 : Int32) : MM (Nat × Int32) :=
  mb (f_X11_isRobot x1) fun x51 => if x51 = 0 then mthr 1 else mb (f_X11_isWithin x2 1 255) fun x54 => if x54 = 0 then mthr 2 else mb (f_X11_holdingsForWave x2) fun x57 => mrd fun S58 => mbo (nI (zL S58 1108 0).length) fun x61 => if (x61 + x57) ≤ 60 then f_X11_wave_65 FU x1 x2 x57 0 else mthr 3
noncomputable def f_X11_allocateLine_8 : Nat → Nat → Nat → Int32 → Int32 → MM (Int32)
  | 0, _, _, _, _ => mfail
  | f + 1, i1, i2, x3, x4 =>
    mrd fun S => mbo (nI (zL S 1104 0).length) fun x55 => if x55 ≤ x4 then mb (f_X4_lacking i2) fun x58 => mret (x3 - x58) else mbo (zO S 400 i2) fun r60 => mlget 1104 0 x4 fun i63 => mopt r60 fun i67 => mb (f_X11_isGoodFor i1 i67 i63) fun x68 => if x68 = 0 then f_X11_allocateLine_8 f i1 i2 x3 (x4 + 1) else mlget 1104 0 x4 fun i73 => mb (f_X11_holdInSlots i1 i2 i73 1) fun w78 => mlget 1104 0 x4 fun i87 => mb (f_X11_holdInSlots i1 i2 i87 0) fun w92 => f_X11_allocateLine_8 f i1 i2 x3 (x4 + 1)
noncomputable def f_X11_allocateLine (i1 : Nat) (i2 : Nat) : MM (Int32) :=
  mb (f_X4_lacking i2) fun x51 => f_X11_allocateLine_8 FU i1 i2 x51 0
noncomputable def f_X11_refill_4 : Nat → Int32 → Int32 → MM (Int32)
  | 0, _, _ => mfail
  | f + 1, x1, x2 =>
    mrd fun S => if (nI (aLn 1100)) ≤ x2 then mret x1 else mbo (nI (zL S 1108 0).length) fun x56 => if 60 ≤ x56 then mret x1 else mix x2 (aLn 1100) <| mbo (zO S 902 x2.toNatClampNeg) fun r64 => mcase r64 (f_X11_refill_4 f x1 (x2 + 1)) fun i66 => mix x2 (aLn 1100) <| mb (f_X11_refillFace x2 x2.toNatClampNeg) fun x72 => if x72 = 0 then f_X11_refill_4 f x1 (x2 + 1) else f_X11_refill_4 f (x1 + 1) (x2 + 1)
noncomputable def f_X11_refill  : MM (Int32) :=
  f_X11_refill_4 FU 0 0
noncomputable def f_X11_allocateOrder_21 : Nat → Nat → Int32 → Int32 → MM (Int32)
  | 0, _, _, _ => mfail
  | f + 1, i1, x2, x3 =>
    mrd fun S => mgd (decide (i1 < zN S 72)) (mbo (nI (zL S 704 i1).length) fun x54 => if x54 ≤ x3 then mret x2 else mgd (decide (i1 < zN S 72)) (mlget 704 i1 x3 fun i59 => mb (f_X11_allocateLine i1 i59) fun x63 => mbo (x2 + x63 : Int32) fun x71 => f_X11_allocateOrder_21 f i1 x71 (x3 + 1)))
noncomputable def f_X11_allocateOrder (i1 : Nat) : MM (Int32) :=
  mrd fun S => if (zA S 702 i1) = 0 then f_X11_allocateOrder_21 FU i1 0 0 else mb (f_X11_canBeWhole i1) fun x73 => if x73 = 0 then mret 0 else f_X11_allocateOrder_21 FU i1 0 0
noncomputable def f_X11_allocate_11 (K5 : Int32 → Int32 → MM (Int32)) : Nat → Int32 → Int32 → Int32 → MM (Int32)
  | 0, _, _, _ => mfail
  | f + 1, x1, x2, x3 =>
    mrd fun S => mbo (nI (zL S 1106 0).length) fun x54 => if x54 ≤ x3 then K5 x1 (x2 + (-1)) else mlget 1106 0 x3 fun i59 => if (zA S 701 i59) = x2 then if (zA S 705 i59) = 0 then mb (f_X11_allocateOrder i59) fun x65 => mbo (x1 + x65 : Int32) fun x73 => f_X11_allocate_11 K5 f x73 x2 (x3 + 1) else f_X11_allocate_11 K5 f x1 x2 (x3 + 1) else f_X11_allocate_11 K5 f x1 x2 (x3 + 1)
noncomputable def f_X11_allocate_5 : Nat → Int32 → Int32 → MM (Int32)
  | 0, _, _ => mfail
  | f + 1, x1, x2 =>
    if x2 < 0 then mret x1 else f_X11_allocate_11 (f_X11_allocate_5 f) FU x1 x2 0
noncomputable def f_X11_allocate  : MM (Int32) :=
  f_X11_allocate_5 FU 0 9
