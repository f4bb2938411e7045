def w_J3_checkIndex_8e157 (x0 : Int32) (x1 : Int32) (o2 : Option Nat) (σ : St) (Q : Int32 → St → Prop) : Prop :=
    (x0 < 0 → False) ∧ (¬ x0 < 0 → (x0 < x1 → Q x0 σ) ∧ (¬ x0 < x1 → False))
def w_J7_copyOf_59c91 (k n : Nat) (a0 : Nat) (x1 : Int32) (σ : St) (Q : Option Nat → St → Prop) : Prop :=
    (¬ x1 = (nI (sL σ a0)) → ¬ x1 < 0 ∧ x1.toNatClampNeg ≤ 60000000 ∧ ∃ k54 n55 : Nat, k54 + 1 = k ∧ n55 + (x1.toNatClampNeg) = n ∧ ∀ (a58 : Nat) (s59 : St), sK σ a58 = 0 → s59 = newA 20 a58 x1.toNatClampNeg σ → ¬ (0 : Int32) < 0 ∧ ¬ (0 : Int32) < 0 ∧ ¬ (if x1 < (nI (sL s59 a0)) then x1 else (nI (sL s59 a0))) < 0 ∧ (0 : Int32).toNatClampNeg + (if x1 < (nI (sL s59 a0)) then x1 else (nI (sL s59 a0))).toNatClampNeg ≤ sL s59 a0 ∧ (0 : Int32).toNatClampNeg + (if x1 < (nI (sL s59 a0)) then x1 else (nI (sL s59 a0))).toNatClampNeg ≤ sL s59 a58 ∧ ∀ s65 : St, s65 = cpyA a58 (va_cpy (sA s59 a0) (sA s59 a58) (0 : Int32).toNatClampNeg (0 : Int32).toNatClampNeg (if x1 < (nI (sL s59 a0)) then x1 else (nI (sL s59 a0))).toNatClampNeg) s59 → Q (some a58) s65) ∧ (x1 = (nI (sL σ a0)) → False)
def w_J7_copyOf_6403c (k n : Nat) (a0 : Nat) (x1 : Int32) (a2 : Nat) (σ : St) (Q : Option Nat → St → Prop) : Prop :=
    ∀ a51 : Nat, (∀ b, sC σ b = 2 ↔ b = a51) → (¬ (some a2) = (some a51) → False) ∧ ((some a2) = (some a51) → ¬ x1 < 0 ∧ x1.toNatClampNeg ≤ 60000000 ∧ ∃ k55 n56 : Nat, k55 + 1 = k ∧ n56 + (x1.toNatClampNeg) = n ∧ ∀ (a59 : Nat) (s60 : St), sK σ a59 = 0 → s60 = newA 50 a59 x1.toNatClampNeg σ → ¬ (0 : Int32) < 0 ∧ ¬ (0 : Int32) < 0 ∧ ¬ (if x1 < (nI (sL s60 a0)) then x1 else (nI (sL s60 a0))) < 0 ∧ (0 : Int32).toNatClampNeg + (if x1 < (nI (sL s60 a0)) then x1 else (nI (sL s60 a0))).toNatClampNeg ≤ sL s60 a0 ∧ (0 : Int32).toNatClampNeg + (if x1 < (nI (sL s60 a0)) then x1 else (nI (sL s60 a0))).toNatClampNeg ≤ sL s60 a59 ∧ 0 < sL s60 a0 ∧ 0 < sL s60 a59 ∧ ∀ s68 : St, s68 = cpyQ a59 (va_cpy (sQ s60 a0) (sQ s60 a59) (0 : Int32).toNatClampNeg (0 : Int32).toNatClampNeg (if x1 < (nI (sL s60 a0)) then x1 else (nI (sL s60 a0))).toNatClampNeg) s60 → Q (some a59) s68)
def w_J8_newLength_cabcc (x0 : Int32) (x1 : Int32) (x2 : Int32) (σ : St) (Q : Int32 → St → Prop) : Prop :=
    ∀ x51 : Int32, x51 = x0 + (if x1 < x2 then x2 else x1) → (x51 ≤ 0 → False) ∧ (¬ x51 ≤ 0 → (2147483639 < x51 → False) ∧ (¬ 2147483639 < x51 → Q x51 σ))
def w_Jx4a65c_elementData_915e3 (a0 : Nat) (x1 : Int32) (σ : St) (Q : Option Nat → St → Prop) : Prop :=
    ∀ o51 : Option Nat, o51 = sR σ 1301 a0 → ∃ a52 : Nat, o51 = some a52 ∧ vp_in x1 (sL σ a52) ∧ ∀ o54 : Option Nat, o54 = sQ σ a52 x1.toNatClampNeg → Q o54 σ
def w_Jx4a65c_fastRemove_b59b0_34 (Q : St → Prop)  (a0 : Nat) (a1 : Nat) (x3 : Int32) (σ : St) : Prop :=
    ∀ s54 : St, s54 = setI 1302 a0 x3 σ → vp_in x3 (sL s54 a1) ∧ ∀ s56 : St, s56 = setQ a1 x3.toNatClampNeg none s54 → Q s56
def w_Jx4a65c_fastRemove_b59b0 (a0 : Nat) (a1 : Nat) (x2 : Int32) (σ : St) (Q : St → Prop) : Prop :=
    ∀ s51 : St, s51 = setI 1300 a0 ((sI σ 1300 a0) + 1) σ → ∀ x52 : Int32, x52 = (sI s51 1302 a0) - 1 → (x52 ≤ x2 → w_Jx4a65c_fastRemove_b59b0_34 Q  a0 a1 x52 s51) ∧ (¬ x52 ≤ x2 → ¬ (x2 + 1) < 0 ∧ ¬ x2 < 0 ∧ ¬ (x52 - x2) < 0 ∧ (x2 + 1).toNatClampNeg + (x52 - x2).toNatClampNeg ≤ sL s51 a1 ∧ x2.toNatClampNeg + (x52 - x2).toNatClampNeg ≤ sL s51 a1 ∧ 0 < sL s51 a1 ∧ 0 < sL s51 a1 ∧ ∀ s64 : St, s64 = cpyQ a1 (va_cpy (sQ s51 a1) (sQ s51 a1) (x2 + 1).toNatClampNeg x2.toNatClampNeg (x52 - x2).toNatClampNeg) s51 → w_Jx4a65c_fastRemove_b59b0_34 Q  a0 a1 x52 s64)
def w_Jx4a65c_isEmpty_aae02 (a0 : Nat) (σ : St) (Q : Int32 → St → Prop) : Prop :=
    (¬ (sI σ 1302 a0) = 0 → Q 0 σ) ∧ ((sI σ 1302 a0) = 0 → Q 1 σ)
def w_Jx4a65c_rangeCheckForAdd_d00df (k n : Nat) (a0 : Nat) (x1 : Int32) (σ : St) (Q : St → Prop) : Prop :=
    ((sI σ 1302 a0) < x1 → False) ∧ (¬ (sI σ 1302 a0) < x1 → (0 ≤ x1 → Q σ) ∧ (¬ 0 ≤ x1 → False))
def w_Jx4a65c_size_8abf5 (a0 : Nat) (σ : St) (Q : Int32 → St → Prop) : Prop :=
    Q (sI σ 1302 a0) σ
def w_Jxa1e45_init_da8c8 (a0 : Nat) (σ : St) (Q : St → Prop) : Prop :=
    Q σ
def w_J15_checkIndex_7cf53 (x0 : Int32) (x1 : Int32) (σ : St) (Q : Int32 → St → Prop) : Prop :=
    w_J3_checkIndex_8e157 x0 x1 none σ (fun x51 s52 => Q x51 s52)
def w_J7_copyOf_1904c (k n : Nat) (a0 : Nat) (x1 : Int32) (σ : St) (Q : Option Nat → St → Prop) : Prop :=
    ∀ a51 : Nat, (∀ b, sC σ b = 2 ↔ b = a51) → ∃ k54 n55 k56 n57 : Nat, k56 + k54 = k ∧ n57 + n55 = n ∧ w_J7_copyOf_6403c k54 n55 a0 x1 a51 σ (fun o52 s53 => Q o52 s53)
def w_Jxc12de_init_da8c8 (a0 : Nat) (σ : St) (Q : St → Prop) : Prop :=
    w_Jxa1e45_init_da8c8 a0 σ (fun s52 => ∀ s53 : St, s53 = setI 1300 a0 0 s52 → Q s53)
def w_Jx4a65c_get_915e3 (a0 : Nat) (x1 : Int32) (σ : St) (Q : Option Nat → St → Prop) : Prop :=
    w_J15_checkIndex_7cf53 x1 (sI σ 1302 a0) σ (fun x51 s52 => w_Jx4a65c_elementData_915e3 a0 x1 s52 (fun o53 s54 => Q o53 s54))
def w_Jx4a65c_grow_92f84_20 (Q : Option Nat → St → Prop)  (a0 : Nat) (x1 : Int32) (x2 : Int32) (σ : St) (k : Nat) (n : Nat) : Prop :=
    w_J8_newLength_cabcc x2 (x1 - x2) (x2 >>> (1 &&& 31)) σ (fun x55 s56 => ∀ o57 : Option Nat, o57 = sR s56 1301 a0 → ∃ a58 : Nat, o57 = some a58 ∧ ∃ k61 n62 k63 n64 : Nat, k63 + k61 = k ∧ n64 + n62 = n ∧ w_J7_copyOf_1904c k61 n62 a58 x55 s56 (fun o59 s60 => ∀ s67 : St, s67 = setR 1301 a0 o59 s60 → Q o59 s67))
def w_Jx4a65c_grow_92f84 (k n : Nat) (a0 : Nat) (x1 : Int32) (σ : St) (Q : Option Nat → St → Prop) : Prop :=
    ∀ o51 : Option Nat, o51 = sR σ 1301 a0 → ∃ a52 : Nat, o51 = some a52 ∧ ∀ x53 : Int32, x53 = nI (sL σ a52) → (0 < x53 → w_Jx4a65c_grow_92f84_20 Q  a0 x1 x53 σ k n) ∧ (¬ 0 < x53 → ∀ o68 : Option Nat, o68 = sR σ 1301 a0 → ∀ a69 : Nat, (∀ b, sC σ b = 1 ↔ b = a69) → (o68 = (some a69) → ¬ (if 10 < x1 then x1 else 10) < 0 ∧ (if 10 < x1 then x1 else 10).toNatClampNeg ≤ 60000000 ∧ ∃ k73 n74 : Nat, k73 + 1 = k ∧ n74 + ((if 10 < x1 then x1 else 10).toNatClampNeg) = n ∧ ∀ (a77 : Nat) (s78 : St), sK σ a77 = 0 → s78 = newA 50 a77 (if 10 < x1 then x1 else 10).toNatClampNeg σ → ∀ s79 : St, s79 = setR 1301 a0 (some a77) s78 → Q (some a77) s79) ∧ (¬ o68 = (some a69) → w_Jx4a65c_grow_92f84_20 Q  a0 x1 x53 σ k n))
def w_Jx4a65c_init_da8c8 (a0 : Nat) (σ : St) (Q : St → Prop) : Prop :=
    w_Jxc12de_init_da8c8 a0 σ (fun s52 => ∀ a53 : Nat, (∀ b, sC s52 b = 1 ↔ b = a53) → ∀ s54 : St, s54 = setR 1301 a0 (some a53) s52 → Q s54)
def w_Jx4a65c_remove_915e3 (a0 : Nat) (x1 : Int32) (σ : St) (Q : Option Nat → St → Prop) : Prop :=
    w_J15_checkIndex_7cf53 x1 (sI σ 1302 a0) σ (fun x51 s52 => ∀ o53 : Option Nat, o53 = sR s52 1301 a0 → ∃ a54 : Nat, o53 = some a54 ∧ vp_in x1 (sL s52 a54) ∧ ∀ o56 : Option Nat, o56 = sQ s52 a54 x1.toNatClampNeg → w_Jx4a65c_fastRemove_b59b0 a0 a54 x1 s52 (fun s58 => Q o56 s58))
def w_Jx4a65c_grow_d5877 (k n : Nat) (a0 : Nat) (σ : St) (Q : Option Nat → St → Prop) : Prop :=
    ∃ k53 n54 k55 n56 : Nat, k55 + k53 = k ∧ n56 + n54 = n ∧ w_Jx4a65c_grow_92f84 k53 n54 a0 ((sI σ 1302 a0) + 1) σ (fun o51 s52 => Q o51 s52)
def w_Jx4a65c_add_72be8_11 (Q : St → Prop)  (a0 : Nat) (a1 : Nat) (o2 : Option Nat) (x3 : Int32) (σ : St) (k : Nat) (n : Nat) : Prop :=
    ∃ a52 : Nat, o2 = some a52 ∧ vp_in x3 (sL σ a52) ∧ ∀ s54 : St, s54 = setQ a52 x3.toNatClampNeg (some a1) σ → ∀ s55 : St, s55 = setI 1302 a0 (x3 + 1) s54 → Q s55
def w_Jx4a65c_add_72be8 (k n : Nat) (a0 : Nat) (a1 : Nat) (a2 : Nat) (x3 : Int32) (σ : St) (Q : St → Prop) : Prop :=
    (¬ x3 = (nI (sL σ a2)) → w_Jx4a65c_add_72be8_11 Q  a0 a1 (some a2) x3 σ k n) ∧ (x3 = (nI (sL σ a2)) → ∃ k58 n59 k60 n61 : Nat, k60 + k58 = k ∧ n61 + n59 = n ∧ w_Jx4a65c_grow_d5877 k58 n59 a0 σ (fun o56 s57 => w_Jx4a65c_add_72be8_11 Q  a0 a1 o56 x3 s57 k60 n61))
def w_Jx4a65c_add_7a177_38 (Q : St → Prop)  (a0 : Nat) (x1 : Int32) (a2 : Nat) (x3 : Int32) (o4 : Option Nat) (σ : St) (k : Nat) (n : Nat) : Prop :=
    ∃ a64 : Nat, o4 = some a64 ∧ ¬ x1 < 0 ∧ ¬ (x1 + 1) < 0 ∧ ¬ (x3 - x1) < 0 ∧ x1.toNatClampNeg + (x3 - x1).toNatClampNeg ≤ sL σ a64 ∧ (x1 + 1).toNatClampNeg + (x3 - x1).toNatClampNeg ≤ sL σ a64 ∧ 0 < sL σ a64 ∧ 0 < sL σ a64 ∧ ∀ s72 : St, s72 = cpyQ a64 (va_cpy (sQ σ a64) (sQ σ a64) x1.toNatClampNeg (x1 + 1).toNatClampNeg (x3 - x1).toNatClampNeg) σ → vp_in x1 (sL s72 a64) ∧ ∀ s74 : St, s74 = setQ a64 x1.toNatClampNeg (some a2) s72 → ∀ s75 : St, s75 = setI 1302 a0 (x3 + 1) s74 → Q s75
def w_Jx4a65c_add_7a177 (k n : Nat) (a0 : Nat) (x1 : Int32) (a2 : Nat) (σ : St) (Q : St → Prop) : Prop :=
    ∃ k53 n54 k55 n56 : Nat, k55 + k53 = k ∧ n56 + n54 = n ∧ w_Jx4a65c_rangeCheckForAdd_d00df k53 n54 a0 x1 σ (fun s52 => ∀ s59 : St, s59 = setI 1300 a0 ((sI s52 1300 a0) + 1) s52 → ∀ x60 : Int32, x60 = sI s59 1302 a0 → ∀ o61 : Option Nat, o61 = sR s59 1301 a0 → ∃ a62 : Nat, o61 = some a62 ∧ (¬ x60 = (nI (sL s59 a62)) → w_Jx4a65c_add_7a177_38 Q  a0 x1 a2 x60 (some a62) s59 k55 n56) ∧ (x60 = (nI (sL s59 a62)) → ∃ k78 n79 k80 n81 : Nat, k80 + k78 = k55 ∧ n81 + n79 = n56 ∧ w_Jx4a65c_grow_d5877 k78 n79 a0 s59 (fun o76 s77 => w_Jx4a65c_add_7a177_38 Q  a0 x1 a2 x60 o76 s77 k80 n81)))
def w_Jx4a65c_add_9ea2d (k n : Nat) (a0 : Nat) (a1 : Nat) (σ : St) (Q : Int32 → St → Prop) : Prop :=
    ∀ s51 : St, s51 = setI 1300 a0 ((sI σ 1300 a0) + 1) σ → ∀ o52 : Option Nat, o52 = sR s51 1301 a0 → ∃ a53 : Nat, o52 = some a53 ∧ ∃ k56 n57 k58 n59 : Nat, k58 + k56 = k ∧ n59 + n57 = n ∧ w_Jx4a65c_add_72be8 k56 n57 a0 a1 a53 (sI s51 1302 a0) s51 (fun s55 => Q 1 s55)
