def w_L_law_216 (L : Nat) (xs : Nat → Int32) (K23 : Nat → Nat → Nat → Int32 → St → Nat → Nat → Prop) (a1 : Nat) (a2 : Nat) (a3 : Nat) (x4 : Int32) (σ : St) (k : Nat) (n : Nat) : Prop :=
    vp_in (x4 + 1) L ∧ vp_in (x4 + 2) L ∧ vp_in (x4 + 3) L ∧ ∃ k94 n95 k96 n97 : Nat, k96 + k94 = k ∧ n97 + n95 = n ∧ w_L_slot k94 n95 a1 (xs (x4 + 1).toNatClampNeg) (xs (x4 + 2).toNatClampNeg) (xs (x4 + 3).toNatClampNeg) σ (fun x92 s93 => ext σ s93 → fr 0 σ s93 → vp_in (x4 + 1) L ∧ vp_in (x4 + 2) L ∧ vp_in (x4 + 3) L ∧ w_X12_slot a2 (xs (x4 + 1).toNatClampNeg) (xs (x4 + 2).toNatClampNeg) (xs (x4 + 3).toNatClampNeg) s93 (fun s104 => ext s93 s104 → fr 2 s93 s104 → w_X12_thrown a2 s104 (fun x105 s106 => ext s104 s106 → fr 2 s104 s106 → (x105 = x92 → K23 a1 a2 a3 (x4 + 7) s106 k96 n97) ∧ (¬ x105 = x92 → False))))
def w_L_law_276 (L : Nat) (xs : Nat → Int32) (K23 : Nat → Nat → Nat → Int32 → St → Nat → Nat → Prop) (a1 : Nat) (a2 : Nat) (a3 : Nat) (x4 : Int32) (σ : St) (k : Nat) (n : Nat) : Prop :=
    vp_in (x4 + 1) L ∧ vp_in (x4 + 2) L ∧ vp_in (x4 + 3) L ∧ vp_in (x4 + 4) L ∧ ∃ k114 n115 k116 n117 : Nat, k116 + k114 = k ∧ n117 + n115 = n ∧ w_L_face k114 n115 a1 (xs (x4 + 1).toNatClampNeg) (xs (x4 + 2).toNatClampNeg) (xs (x4 + 3).toNatClampNeg) (xs (x4 + 4).toNatClampNeg) σ (fun x112 s113 => ext σ s113 → fr 0 σ s113 → vp_in (x4 + 1) L ∧ vp_in (x4 + 2) L ∧ vp_in (x4 + 3) L ∧ vp_in (x4 + 4) L ∧ w_X12_face a2 (xs (x4 + 1).toNatClampNeg) (xs (x4 + 2).toNatClampNeg) (xs (x4 + 3).toNatClampNeg) (xs (x4 + 4).toNatClampNeg) s113 (fun s125 => ext s113 s125 → fr 2 s113 s125 → w_X12_thrown a2 s125 (fun x126 s127 => ext s125 s127 → fr 2 s125 s127 → (x126 = x112 → K23 a1 a2 a3 (x4 + 7) s127 k116 n117) ∧ (¬ x126 = x112 → False))))
def w_L_law_348 (L : Nat) (xs : Nat → Int32) (K23 : Nat → Nat → Nat → Int32 → St → Nat → Nat → Prop) (a1 : Nat) (a2 : Nat) (a3 : Nat) (x4 : Int32) (σ : St) (k : Nat) (n : Nat) : Prop :=
    vp_in (x4 + 1) L ∧ vp_in (x4 + 2) L ∧ vp_in (x4 + 3) L ∧ vp_in (x4 + 4) L ∧ vp_in (x4 + 5) L ∧ vp_in (x4 + 6) L ∧ ∃ k137 n138 k139 n140 : Nat, k139 + k137 = k ∧ n140 + n138 = n ∧ w_L_item k137 n138 a1 (xs (x4 + 1).toNatClampNeg) (xs (x4 + 2).toNatClampNeg) (xs (x4 + 3).toNatClampNeg) (xs (x4 + 4).toNatClampNeg) (xs (x4 + 5).toNatClampNeg) (xs (x4 + 6).toNatClampNeg) σ (fun x135 s136 => ext σ s136 → fr 0 σ s136 → vp_in (x4 + 1) L ∧ vp_in (x4 + 2) L ∧ vp_in (x4 + 3) L ∧ vp_in (x4 + 4) L ∧ vp_in (x4 + 5) L ∧ vp_in (x4 + 6) L ∧ w_X12_item a2 (xs (x4 + 1).toNatClampNeg) (xs (x4 + 2).toNatClampNeg) (xs (x4 + 3).toNatClampNeg) (xs (x4 + 4).toNatClampNeg) (xs (x4 + 5).toNatClampNeg) (xs (x4 + 6).toNatClampNeg) s136 (fun s150 => ext s136 s150 → fr 2 s136 s150 → w_X12_thrown a2 s150 (fun x151 s152 => ext s150 s152 → fr 2 s150 s152 → (x151 = x135 → K23 a1 a2 a3 (x4 + 7) s152 k139 n140) ∧ (¬ x151 = x135 → False))))
def w_L_law_540 (L : Nat) (xs : Nat → Int32) (K23 : Nat → Nat → Nat → Int32 → St → Nat → Nat → Prop) (a1 : Nat) (a2 : Nat) (a3 : Nat) (x4 : Int32) (xs0 : Int32) (xs1 : Int32) (σ : St) (k : Nat) (n : Nat) : Prop :=
    ((jc xs0 xs1) = 0 → K23 a1 a2 a3 (x4 + 7) σ k n) ∧ (¬ (jc xs0 xs1) = 0 → False)
def w_L_law_506 (L : Nat) (xs : Nat → Int32) (K23 : Nat → Nat → Nat → Int32 → St → Nat → Nat → Prop) (a1 : Nat) (a2 : Nat) (a3 : Nat) (x4 : Int32) (x5 : Int32) (as0 : Nat) (xs1 : Int32) (xs2 : Int32) (xs3 : Int32) (σ : St) (k : Nat) (n : Nat) : Prop :=
    w_X12_bar as0 xs1 xs2 xs3 σ (fun x170 s171 => ext σ s171 → fr 2 σ s171 → w_X12_thrown a2 s171 (fun x172 s173 => ext s171 s173 → fr 2 s171 s173 → (x172 = x5 → (¬ x5 = 0 → K23 a1 a2 a3 (x4 + 7) s173 k n) ∧ (x5 = 0 → vp_in 0 (sL s173 a3) ∧ (x170 = 0 → w_L_law_540 L xs K23 a1 a2 a3 x4 (sA s173 a3 (0 : Int32).toNatClampNeg) 0 s173 k n) ∧ (¬ x170 = 0 → w_L_law_540 L xs K23 a1 a2 a3 x4 (sA s173 a3 (0 : Int32).toNatClampNeg) 1 s173 k n))) ∧ (¬ x172 = x5 → False)))
def w_L_law_473 (L : Nat) (xs : Nat → Int32) (K23 : Nat → Nat → Nat → Int32 → St → Nat → Nat → Prop) (a1 : Nat) (a2 : Nat) (a3 : Nat) (x4 : Int32) (as0 : Nat) (xs1 : Int32) (xs2 : Int32) (xs3 : Int32) (σ : St) (k : Nat) (n : Nat) : Prop :=
    ∃ k160 n161 k162 n163 : Nat, k162 + k160 = k ∧ n163 + n161 = n ∧ w_L_bar k160 n161 as0 xs1 xs2 xs3 a3 σ (fun x158 s159 => ext σ s159 → fr 0 σ s159 → vp_in (x4 + 1) L ∧ vp_in (x4 + 2) L ∧ vp_in (x4 + 3) L ∧ ((xs (x4 + 3).toNatClampNeg) = 0 → w_L_law_506 L xs K23 a1 a2 a3 x4 x158 a2 (xs (x4 + 1).toNatClampNeg) (xs (x4 + 2).toNatClampNeg) 0 s159 k162 n163) ∧ (¬ (xs (x4 + 3).toNatClampNeg) = 0 → w_L_law_506 L xs K23 a1 a2 a3 x4 x158 a2 (xs (x4 + 1).toNatClampNeg) (xs (x4 + 2).toNatClampNeg) 1 s159 k162 n163))
def w_L_law_446 (L : Nat) (xs : Nat → Int32) (K23 : Nat → Nat → Nat → Int32 → St → Nat → Nat → Prop) (a1 : Nat) (a2 : Nat) (a3 : Nat) (x4 : Int32) (σ : St) (k : Nat) (n : Nat) : Prop :=
    vp_in (x4 + 1) L ∧ vp_in (x4 + 2) L ∧ vp_in (x4 + 3) L ∧ ((xs (x4 + 3).toNatClampNeg) = 0 → w_L_law_473 L xs K23 a1 a2 a3 x4 a1 (xs (x4 + 1).toNatClampNeg) (xs (x4 + 2).toNatClampNeg) 0 σ k n) ∧ (¬ (xs (x4 + 3).toNatClampNeg) = 0 → w_L_law_473 L xs K23 a1 a2 a3 x4 a1 (xs (x4 + 1).toNatClampNeg) (xs (x4 + 2).toNatClampNeg) 1 σ k n)
def w_L_law_549 (L : Nat) (xs : Nat → Int32) (K23 : Nat → Nat → Nat → Int32 → St → Nat → Nat → Prop) (a1 : Nat) (a2 : Nat) (a3 : Nat) (x4 : Int32) (σ : St) (k : Nat) (n : Nat) : Prop :=
    vp_in (x4 + 1) L ∧ vp_in (x4 + 2) L ∧ ∃ k183 n184 k185 n186 : Nat, k185 + k183 = k ∧ n186 + n184 = n ∧ w_L_lot k183 n184 a1 (xs (x4 + 1).toNatClampNeg) (xs (x4 + 2).toNatClampNeg) a3 σ (fun x181 s182 => ext σ s182 → fr 0 σ s182 → vp_in (x4 + 1) L ∧ vp_in (x4 + 2) L ∧ w_X12_lot a2 (xs (x4 + 1).toNatClampNeg) (xs (x4 + 2).toNatClampNeg) s182 (fun x191 s192 => ext s182 s192 → fr 2 s182 s192 → w_X12_thrown a2 s192 (fun x193 s194 => ext s192 s194 → fr 2 s192 s194 → (x193 = x181 → (¬ x181 = 0 → K23 a1 a2 a3 (x4 + 7) s194 k185 n186) ∧ (x181 = 0 → vp_in 0 (sL s194 a3) ∧ ((jc (sA s194 a3 (0 : Int32).toNatClampNeg) x191) = 0 → K23 a1 a2 a3 (x4 + 7) s194 k185 n186) ∧ (¬ (jc (sA s194 a3 (0 : Int32).toNatClampNeg) x191) = 0 → False))) ∧ (¬ x193 = x181 → False))))
def w_L_law_617 (L : Nat) (xs : Nat → Int32) (K23 : Nat → Nat → Nat → Int32 → St → Nat → Nat → Prop) (a1 : Nat) (a2 : Nat) (a3 : Nat) (x4 : Int32) (σ : St) (k : Nat) (n : Nat) : Prop :=
    vp_in (x4 + 1) L ∧ vp_in (x4 + 2) L ∧ ∃ k203 n204 k205 n206 : Nat, k205 + k203 = k ∧ n206 + n204 = n ∧ w_L_stock k203 n204 a1 (xs (x4 + 1).toNatClampNeg) (xs (x4 + 2).toNatClampNeg) a3 σ (fun x201 s202 => ext σ s202 → fr 0 σ s202 → vp_in (x4 + 1) L ∧ vp_in (x4 + 2) L ∧ w_X12_stock a2 (xs (x4 + 1).toNatClampNeg) (xs (x4 + 2).toNatClampNeg) s202 (fun x211 s212 => ext s202 s212 → fr 2 s202 s212 → w_X12_thrown a2 s212 (fun x213 s214 => ext s212 s214 → fr 2 s212 s214 → (x213 = x201 → (¬ x201 = 0 → K23 a1 a2 a3 (x4 + 7) s214 k205 n206) ∧ (x201 = 0 → vp_in 0 (sL s214 a3) ∧ ((jc (sA s214 a3 (0 : Int32).toNatClampNeg) x211) = 0 → K23 a1 a2 a3 (x4 + 7) s214 k205 n206) ∧ (¬ (jc (sA s214 a3 (0 : Int32).toNatClampNeg) x211) = 0 → False))) ∧ (¬ x213 = x201 → False))))
def w_L_law_685 (L : Nat) (xs : Nat → Int32) (K23 : Nat → Nat → Nat → Int32 → St → Nat → Nat → Prop) (a1 : Nat) (a2 : Nat) (a3 : Nat) (x4 : Int32) (σ : St) (k : Nat) (n : Nat) : Prop :=
    vp_in (x4 + 1) L ∧ vp_in (x4 + 2) L ∧ ∃ k223 n224 k225 n226 : Nat, k225 + k223 = k ∧ n226 + n224 = n ∧ w_L_stockAnew k223 n224 a1 (xs (x4 + 1).toNatClampNeg) (xs (x4 + 2).toNatClampNeg) a3 σ (fun x221 s222 => ext σ s222 → fr 0 σ s222 → vp_in (x4 + 1) L ∧ vp_in (x4 + 2) L ∧ w_X12_stockAnew a2 (xs (x4 + 1).toNatClampNeg) (xs (x4 + 2).toNatClampNeg) s222 (fun x231 s232 => ext s222 s232 → fr 2 s222 s232 → w_X12_thrown a2 s232 (fun x233 s234 => ext s232 s234 → fr 2 s232 s234 → (x233 = x221 → (¬ x221 = 0 → K23 a1 a2 a3 (x4 + 7) s234 k225 n226) ∧ (x221 = 0 → vp_in 0 (sL s234 a3) ∧ ((jc (sA s234 a3 (0 : Int32).toNatClampNeg) x231) = 0 → K23 a1 a2 a3 (x4 + 7) s234 k225 n226) ∧ (¬ (jc (sA s234 a3 (0 : Int32).toNatClampNeg) x231) = 0 → False))) ∧ (¬ x233 = x221 → False))))
def w_L_law_753 (L : Nat) (xs : Nat → Int32) (K23 : Nat → Nat → Nat → Int32 → St → Nat → Nat → Prop) (a1 : Nat) (a2 : Nat) (a3 : Nat) (x4 : Int32) (σ : St) (k : Nat) (n : Nat) : Prop :=
    vp_in (x4 + 1) L ∧ vp_in (x4 + 2) L ∧ ∃ k243 n244 k245 n246 : Nat, k245 + k243 = k ∧ n246 + n244 = n ∧ w_L_free k243 n244 a1 (xs (x4 + 1).toNatClampNeg) (xs (x4 + 2).toNatClampNeg) a3 σ (fun x241 s242 => ext σ s242 → fr 0 σ s242 → vp_in (x4 + 1) L ∧ vp_in (x4 + 2) L ∧ w_X12_free a2 (xs (x4 + 1).toNatClampNeg) (xs (x4 + 2).toNatClampNeg) s242 (fun x251 s252 => ext s242 s252 → fr 2 s242 s252 → w_X12_thrown a2 s252 (fun x253 s254 => ext s252 s254 → fr 2 s252 s254 → (x253 = x241 → (¬ x241 = 0 → K23 a1 a2 a3 (x4 + 7) s254 k245 n246) ∧ (x241 = 0 → vp_in 0 (sL s254 a3) ∧ ((jc (sA s254 a3 (0 : Int32).toNatClampNeg) x251) = 0 → K23 a1 a2 a3 (x4 + 7) s254 k245 n246) ∧ (¬ (jc (sA s254 a3 (0 : Int32).toNatClampNeg) x251) = 0 → False))) ∧ (¬ x253 = x241 → False))))
def w_L_law_821 (L : Nat) (xs : Nat → Int32) (K23 : Nat → Nat → Nat → Int32 → St → Nat → Nat → Prop) (a1 : Nat) (a2 : Nat) (a3 : Nat) (x4 : Int32) (σ : St) (k : Nat) (n : Nat) : Prop :=
    vp_in (x4 + 1) L ∧ ∃ k262 n263 k264 n265 : Nat, k264 + k262 = k ∧ n265 + n263 = n ∧ w_L_room k262 n263 a1 (xs (x4 + 1).toNatClampNeg) a3 σ (fun x260 s261 => ext σ s261 → fr 0 σ s261 → vp_in (x4 + 1) L ∧ w_X12_room a2 (xs (x4 + 1).toNatClampNeg) s261 (fun x269 s270 => ext s261 s270 → fr 2 s261 s270 → w_X12_thrown a2 s270 (fun x271 s272 => ext s270 s272 → fr 2 s270 s272 → (x271 = x260 → (¬ x260 = 0 → K23 a1 a2 a3 (x4 + 7) s272 k264 n265) ∧ (x260 = 0 → vp_in 0 (sL s272 a3) ∧ ((jc (sA s272 a3 (0 : Int32).toNatClampNeg) x269) = 0 → K23 a1 a2 a3 (x4 + 7) s272 k264 n265) ∧ (¬ (jc (sA s272 a3 (0 : Int32).toNatClampNeg) x269) = 0 → False))) ∧ (¬ x271 = x260 → False))))
def w_L_law_877 (L : Nat) (xs : Nat → Int32) (K23 : Nat → Nat → Nat → Int32 → St → Nat → Nat → Prop) (a1 : Nat) (a2 : Nat) (a3 : Nat) (x4 : Int32) (σ : St) (k : Nat) (n : Nat) : Prop :=
    vp_in (x4 + 1) L ∧ vp_in (x4 + 2) L ∧ ∃ k281 n282 k283 n284 : Nat, k283 + k281 = k ∧ n284 + n282 = n ∧ w_L_notice k281 n282 a1 (xs (x4 + 1).toNatClampNeg) (xs (x4 + 2).toNatClampNeg) a3 σ (fun x279 s280 => ext σ s280 → fr 0 σ s280 → vp_in (x4 + 1) L ∧ vp_in (x4 + 2) L ∧ w_X12_notice a2 (xs (x4 + 1).toNatClampNeg) (xs (x4 + 2).toNatClampNeg) s280 (fun x289 s290 => ext s280 s290 → fr 2 s280 s290 → w_X12_thrown a2 s290 (fun x291 s292 => ext s290 s292 → fr 2 s290 s292 → (x291 = x279 → (¬ x279 = 0 → K23 a1 a2 a3 (x4 + 7) s292 k283 n284) ∧ (x279 = 0 → vp_in 0 (sL s292 a3) ∧ ((jc (sA s292 a3 (0 : Int32).toNatClampNeg) x289) = 0 → K23 a1 a2 a3 (x4 + 7) s292 k283 n284) ∧ (¬ (jc (sA s292 a3 (0 : Int32).toNatClampNeg) x289) = 0 → False))) ∧ (¬ x291 = x279 → False))))
def w_L_law_945 (L : Nat) (xs : Nat → Int32) (K23 : Nat → Nat → Nat → Int32 → St → Nat → Nat → Prop) (a1 : Nat) (a2 : Nat) (a3 : Nat) (x4 : Int32) (σ : St) (k : Nat) (n : Nat) : Prop :=
    vp_in (x4 + 1) L ∧ vp_in (x4 + 2) L ∧ vp_in (x4 + 3) L ∧ ∃ k302 n303 k304 n305 : Nat, k304 + k302 = k ∧ n305 + n303 = n ∧ w_L_receive k302 n303 a1 (xs (x4 + 1).toNatClampNeg) (xs (x4 + 2).toNatClampNeg) (xs (x4 + 3).toNatClampNeg) a3 σ (fun x300 s301 => ext σ s301 → fr 0 σ s301 → vp_in (x4 + 1) L ∧ vp_in (x4 + 2) L ∧ vp_in (x4 + 3) L ∧ w_X12_receive a2 (xs (x4 + 1).toNatClampNeg) (xs (x4 + 2).toNatClampNeg) (xs (x4 + 3).toNatClampNeg) s301 (fun x311 s312 => ext s301 s312 → fr 2 s301 s312 → w_X12_thrown a2 s312 (fun x313 s314 => ext s312 s314 → fr 2 s312 s314 → (x313 = x300 → (¬ x300 = 0 → K23 a1 a2 a3 (x4 + 7) s314 k304 n305) ∧ (x300 = 0 → vp_in 0 (sL s314 a3) ∧ ((jc (sA s314 a3 (0 : Int32).toNatClampNeg) x311) = 0 → K23 a1 a2 a3 (x4 + 7) s314 k304 n305) ∧ (¬ (jc (sA s314 a3 (0 : Int32).toNatClampNeg) x311) = 0 → False))) ∧ (¬ x313 = x300 → False))))
def w_L_law_1025 (L : Nat) (xs : Nat → Int32) (K23 : Nat → Nat → Nat → Int32 → St → Nat → Nat → Prop) (a1 : Nat) (a2 : Nat) (a3 : Nat) (x4 : Int32) (σ : St) (k : Nat) (n : Nat) : Prop :=
    vp_in (x4 + 1) L ∧ ∃ k322 n323 k324 n325 : Nat, k324 + k322 = k ∧ n325 + n323 = n ∧ w_L_close k322 n323 a1 (xs (x4 + 1).toNatClampNeg) a3 σ (fun x320 s321 => ext σ s321 → fr 0 σ s321 → vp_in (x4 + 1) L ∧ w_X12_close a2 (xs (x4 + 1).toNatClampNeg) s321 (fun x329 s330 => ext s321 s330 → fr 2 s321 s330 → w_X12_thrown a2 s330 (fun x331 s332 => ext s330 s332 → fr 2 s330 s332 → (x331 = x320 → (¬ x320 = 0 → K23 a1 a2 a3 (x4 + 7) s332 k324 n325) ∧ (x320 = 0 → vp_in 0 (sL s332 a3) ∧ ((jc (sA s332 a3 (0 : Int32).toNatClampNeg) x329) = 0 → K23 a1 a2 a3 (x4 + 7) s332 k324 n325) ∧ (¬ (jc (sA s332 a3 (0 : Int32).toNatClampNeg) x329) = 0 → False))) ∧ (¬ x331 = x320 → False))))
def w_L_law_1081 (L : Nat) (xs : Nat → Int32) (K23 : Nat → Nat → Nat → Int32 → St → Nat → Nat → Prop) (a1 : Nat) (a2 : Nat) (a3 : Nat) (x4 : Int32) (σ : St) (k : Nat) (n : Nat) : Prop :=
    vp_in (x4 + 1) L ∧ ∃ k340 n341 k342 n343 : Nat, k342 + k340 = k ∧ n343 + n341 = n ∧ w_L_others k340 n341 a1 (xs (x4 + 1).toNatClampNeg) a3 σ (fun x338 s339 => ext σ s339 → fr 0 σ s339 → vp_in (x4 + 1) L ∧ w_X12_others a2 (xs (x4 + 1).toNatClampNeg) s339 (fun x347 s348 => ext s339 s348 → fr 2 s339 s348 → w_X12_thrown a2 s348 (fun x349 s350 => ext s348 s350 → fr 2 s348 s350 → (x349 = x338 → (¬ x338 = 0 → K23 a1 a2 a3 (x4 + 7) s350 k342 n343) ∧ (x338 = 0 → vp_in 0 (sL s350 a3) ∧ ((jc (sA s350 a3 (0 : Int32).toNatClampNeg) x347) = 0 → K23 a1 a2 a3 (x4 + 7) s350 k342 n343) ∧ (¬ (jc (sA s350 a3 (0 : Int32).toNatClampNeg) x347) = 0 → False))) ∧ (¬ x349 = x338 → False))))
def w_L_law_1137 (L : Nat) (xs : Nat → Int32) (K23 : Nat → Nat → Nat → Int32 → St → Nat → Nat → Prop) (a1 : Nat) (a2 : Nat) (a3 : Nat) (x4 : Int32) (σ : St) (k : Nat) (n : Nat) : Prop :=
    vp_in (x4 + 1) L ∧ vp_in (x4 + 2) L ∧ ∃ k359 n360 k361 n362 : Nat, k361 + k359 = k ∧ n362 + n360 = n ∧ w_L_putAway k359 n360 a1 (xs (x4 + 1).toNatClampNeg) (xs (x4 + 2).toNatClampNeg) a3 σ (fun x357 s358 => ext σ s358 → fr 0 σ s358 → vp_in (x4 + 1) L ∧ vp_in (x4 + 2) L ∧ w_X12_putAway a2 (xs (x4 + 1).toNatClampNeg) (xs (x4 + 2).toNatClampNeg) s358 (fun x367 s368 => ext s358 s368 → fr 2 s358 s368 → w_X12_thrown a2 s368 (fun x369 s370 => ext s368 s370 → fr 2 s368 s370 → (x369 = x357 → (¬ x357 = 0 → K23 a1 a2 a3 (x4 + 7) s370 k361 n362) ∧ (x357 = 0 → vp_in 0 (sL s370 a3) ∧ ((jc (sA s370 a3 (0 : Int32).toNatClampNeg) x367) = 0 → K23 a1 a2 a3 (x4 + 7) s370 k361 n362) ∧ (¬ (jc (sA s370 a3 (0 : Int32).toNatClampNeg) x367) = 0 → False))) ∧ (¬ x369 = x357 → False))))
def w_L_law_1205 (L : Nat) (xs : Nat → Int32) (K23 : Nat → Nat → Nat → Int32 → St → Nat → Nat → Prop) (a1 : Nat) (a2 : Nat) (a3 : Nat) (x4 : Int32) (σ : St) (k : Nat) (n : Nat) : Prop :=
    ∃ k377 n378 k379 n380 : Nat, k379 + k377 = k ∧ n380 + n378 = n ∧ w_X11_refill k377 n378 a1 σ (fun x375 s376 => ext σ s376 → fr 1 σ s376 → w_X12_refill a2 s376 (fun x383 s384 => ext s376 s384 → fr 2 s376 s384 → (x375 = x383 → K23 a1 a2 a3 (x4 + 7) s384 k379 n380) ∧ (¬ x375 = x383 → False)))
def w_L_law_1272 (L : Nat) (xs : Nat → Int32) (K23 : Nat → Nat → Nat → Int32 → St → Nat → Nat → Prop) (a1 : Nat) (a2 : Nat) (a3 : Nat) (x4 : Int32) (x5 : Int32) (as0 : Nat) (xs1 : Int32) (xs2 : Int32) (σ : St) (k : Nat) (n : Nat) : Prop :=
    vp_in (x4 + 3) L ∧ w_X12_order as0 xs1 xs2 (xs (x4 + 3).toNatClampNeg) σ (fun x402 s403 => ext σ s403 → fr 2 σ s403 → w_X12_thrown a2 s403 (fun x404 s405 => ext s403 s405 → fr 2 s403 s405 → (x404 = x5 → (¬ x5 = 0 → K23 a1 a2 a3 (x4 + 7) s405 k n) ∧ (x5 = 0 → vp_in 0 (sL s405 a3) ∧ ((jc (sA s405 a3 (0 : Int32).toNatClampNeg) x402) = 0 → K23 a1 a2 a3 (x4 + 7) s405 k n) ∧ (¬ (jc (sA s405 a3 (0 : Int32).toNatClampNeg) x402) = 0 → False))) ∧ (¬ x404 = x5 → False)))
def w_L_law_1239 (L : Nat) (xs : Nat → Int32) (K23 : Nat → Nat → Nat → Int32 → St → Nat → Nat → Prop) (a1 : Nat) (a2 : Nat) (a3 : Nat) (x4 : Int32) (as0 : Nat) (xs1 : Int32) (xs2 : Int32) (σ : St) (k : Nat) (n : Nat) : Prop :=
    vp_in (x4 + 3) L ∧ ∃ k392 n393 k394 n395 : Nat, k394 + k392 = k ∧ n395 + n393 = n ∧ w_L_order k392 n393 as0 xs1 xs2 (xs (x4 + 3).toNatClampNeg) a3 σ (fun x390 s391 => ext σ s391 → fr 0 σ s391 → vp_in (x4 + 1) L ∧ vp_in (x4 + 2) L ∧ ((xs (x4 + 2).toNatClampNeg) = 0 → w_L_law_1272 L xs K23 a1 a2 a3 x4 x390 a2 (xs (x4 + 1).toNatClampNeg) 0 s391 k394 n395) ∧ (¬ (xs (x4 + 2).toNatClampNeg) = 0 → w_L_law_1272 L xs K23 a1 a2 a3 x4 x390 a2 (xs (x4 + 1).toNatClampNeg) 1 s391 k394 n395))
def w_L_law_1218 (L : Nat) (xs : Nat → Int32) (K23 : Nat → Nat → Nat → Int32 → St → Nat → Nat → Prop) (a1 : Nat) (a2 : Nat) (a3 : Nat) (x4 : Int32) (σ : St) (k : Nat) (n : Nat) : Prop :=
    vp_in (x4 + 1) L ∧ vp_in (x4 + 2) L ∧ ((xs (x4 + 2).toNatClampNeg) = 0 → w_L_law_1239 L xs K23 a1 a2 a3 x4 a1 (xs (x4 + 1).toNatClampNeg) 0 σ k n) ∧ (¬ (xs (x4 + 2).toNatClampNeg) = 0 → w_L_law_1239 L xs K23 a1 a2 a3 x4 a1 (xs (x4 + 1).toNatClampNeg) 1 σ k n)
def w_L_law_1314 (L : Nat) (xs : Nat → Int32) (K23 : Nat → Nat → Nat → Int32 → St → Nat → Nat → Prop) (a1 : Nat) (a2 : Nat) (a3 : Nat) (x4 : Int32) (σ : St) (k : Nat) (n : Nat) : Prop :=
    vp_in (x4 + 1) L ∧ vp_in (x4 + 2) L ∧ vp_in (x4 + 3) L ∧ ∃ k415 n416 k417 n418 : Nat, k417 + k415 = k ∧ n418 + n416 = n ∧ w_L_line k415 n416 a1 (xs (x4 + 1).toNatClampNeg) (xs (x4 + 2).toNatClampNeg) (xs (x4 + 3).toNatClampNeg) a3 σ (fun x413 s414 => ext σ s414 → fr 0 σ s414 → vp_in (x4 + 1) L ∧ vp_in (x4 + 2) L ∧ vp_in (x4 + 3) L ∧ w_X12_line a2 (xs (x4 + 1).toNatClampNeg) (xs (x4 + 2).toNatClampNeg) (xs (x4 + 3).toNatClampNeg) s414 (fun x424 s425 => ext s414 s425 → fr 2 s414 s425 → w_X12_thrown a2 s425 (fun x426 s427 => ext s425 s427 → fr 2 s425 s427 → (x426 = x413 → (¬ x413 = 0 → K23 a1 a2 a3 (x4 + 7) s427 k417 n418) ∧ (x413 = 0 → vp_in 0 (sL s427 a3) ∧ ((jc (sA s427 a3 (0 : Int32).toNatClampNeg) x424) = 0 → K23 a1 a2 a3 (x4 + 7) s427 k417 n418) ∧ (¬ (jc (sA s427 a3 (0 : Int32).toNatClampNeg) x424) = 0 → False))) ∧ (¬ x426 = x413 → False))))
def w_L_law_1394 (L : Nat) (xs : Nat → Int32) (K23 : Nat → Nat → Nat → Int32 → St → Nat → Nat → Prop) (a1 : Nat) (a2 : Nat) (a3 : Nat) (x4 : Int32) (σ : St) (k : Nat) (n : Nat) : Prop :=
    ∃ k434 n435 k436 n437 : Nat, k436 + k434 = k ∧ n437 + n435 = n ∧ w_X11_allocate k434 n435 a1 σ (fun x432 s433 => ext σ s433 → fr 1 σ s433 → w_X12_allocate a2 s433 (fun x440 s441 => ext s433 s441 → fr 2 s433 s441 → (x432 = x440 → K23 a1 a2 a3 (x4 + 7) s441 k436 n437) ∧ (¬ x432 = x440 → False)))
def w_L_law_1407 (L : Nat) (xs : Nat → Int32) (K23 : Nat → Nat → Nat → Int32 → St → Nat → Nat → Prop) (a1 : Nat) (a2 : Nat) (a3 : Nat) (x4 : Int32) (σ : St) (k : Nat) (n : Nat) : Prop :=
    vp_in (x4 + 1) L ∧ vp_in (x4 + 2) L ∧ ∃ k447 n448 k449 n450 : Nat, k449 + k447 = k ∧ n450 + n448 = n ∧ w_L_lacks k447 n448 a1 (xs (x4 + 1).toNatClampNeg) (xs (x4 + 2).toNatClampNeg) a3 σ (fun x445 s446 => ext σ s446 → fr 0 σ s446 → vp_in (x4 + 1) L ∧ vp_in (x4 + 2) L ∧ w_X12_lacks a2 (xs (x4 + 1).toNatClampNeg) (xs (x4 + 2).toNatClampNeg) s446 (fun x455 s456 => ext s446 s456 → fr 2 s446 s456 → w_X12_thrown a2 s456 (fun x457 s458 => ext s456 s458 → fr 2 s456 s458 → (x457 = x445 → (¬ x445 = 0 → K23 a1 a2 a3 (x4 + 7) s458 k449 n450) ∧ (x445 = 0 → vp_in 0 (sL s458 a3) ∧ ((jc (sA s458 a3 (0 : Int32).toNatClampNeg) x455) = 0 → K23 a1 a2 a3 (x4 + 7) s458 k449 n450) ∧ (¬ (jc (sA s458 a3 (0 : Int32).toNatClampNeg) x455) = 0 → False))) ∧ (¬ x457 = x445 → False))))
def w_L_law_1475 (L : Nat) (xs : Nat → Int32) (K23 : Nat → Nat → Nat → Int32 → St → Nat → Nat → Prop) (a1 : Nat) (a2 : Nat) (a3 : Nat) (x4 : Int32) (σ : St) (k : Nat) (n : Nat) : Prop :=
    vp_in (x4 + 1) L ∧ vp_in (x4 + 2) L ∧ vp_in (x4 + 3) L ∧ ∃ k468 n469 k470 n471 : Nat, k470 + k468 = k ∧ n471 + n469 = n ∧ w_L_held k468 n469 a1 (xs (x4 + 1).toNatClampNeg) (xs (x4 + 2).toNatClampNeg) (xs (x4 + 3).toNatClampNeg) a3 σ (fun x466 s467 => ext σ s467 → fr 0 σ s467 → vp_in (x4 + 1) L ∧ vp_in (x4 + 2) L ∧ vp_in (x4 + 3) L ∧ w_X12_held a2 (xs (x4 + 1).toNatClampNeg) (xs (x4 + 2).toNatClampNeg) (xs (x4 + 3).toNatClampNeg) s467 (fun x477 s478 => ext s467 s478 → fr 2 s467 s478 → w_X12_thrown a2 s478 (fun x479 s480 => ext s478 s480 → fr 2 s478 s480 → (x479 = x466 → (¬ x466 = 0 → K23 a1 a2 a3 (x4 + 7) s480 k470 n471) ∧ (x466 = 0 → vp_in 0 (sL s480 a3) ∧ ((jc (sA s480 a3 (0 : Int32).toNatClampNeg) x477) = 0 → K23 a1 a2 a3 (x4 + 7) s480 k470 n471) ∧ (¬ (jc (sA s480 a3 (0 : Int32).toNatClampNeg) x477) = 0 → False))) ∧ (¬ x479 = x466 → False))))
def w_L_law_1555 (L : Nat) (xs : Nat → Int32) (K23 : Nat → Nat → Nat → Int32 → St → Nat → Nat → Prop) (a1 : Nat) (a2 : Nat) (a3 : Nat) (x4 : Int32) (σ : St) (k : Nat) (n : Nat) : Prop :=
    vp_in (x4 + 1) L ∧ vp_in (x4 + 2) L ∧ ∃ k489 n490 k491 n492 : Nat, k491 + k489 = k ∧ n492 + n490 = n ∧ w_L_wave k489 n490 a1 (xs (x4 + 1).toNatClampNeg) (xs (x4 + 2).toNatClampNeg) a3 σ (fun x487 s488 => ext σ s488 → fr 0 σ s488 → vp_in (x4 + 1) L ∧ vp_in (x4 + 2) L ∧ w_X12_wave a2 (xs (x4 + 1).toNatClampNeg) (xs (x4 + 2).toNatClampNeg) s488 (fun x497 s498 => ext s488 s498 → fr 2 s488 s498 → w_X12_thrown a2 s498 (fun x499 s500 => ext s498 s500 → fr 2 s498 s500 → (x499 = x487 → (¬ x487 = 0 → K23 a1 a2 a3 (x4 + 7) s500 k491 n492) ∧ (x487 = 0 → vp_in 0 (sL s500 a3) ∧ ((jc (sA s500 a3 (0 : Int32).toNatClampNeg) x497) = 0 → K23 a1 a2 a3 (x4 + 7) s500 k491 n492) ∧ (¬ (jc (sA s500 a3 (0 : Int32).toNatClampNeg) x497) = 0 → False))) ∧ (¬ x499 = x487 → False))))
def w_L_law_1623 (L : Nat) (xs : Nat → Int32) (K23 : Nat → Nat → Nat → Int32 → St → Nat → Nat → Prop) (a1 : Nat) (a2 : Nat) (a3 : Nat) (x4 : Int32) (σ : St) (k : Nat) (n : Nat) : Prop :=
    vp_in (x4 + 1) L ∧ vp_in (x4 + 2) L ∧ ∃ k509 n510 k511 n512 : Nat, k511 + k509 = k ∧ n512 + n510 = n ∧ w_L_give k509 n510 a1 (xs (x4 + 1).toNatClampNeg) (xs (x4 + 2).toNatClampNeg) a3 σ (fun x507 s508 => ext σ s508 → fr 0 σ s508 → vp_in (x4 + 1) L ∧ vp_in (x4 + 2) L ∧ w_X12_give a2 (xs (x4 + 1).toNatClampNeg) (xs (x4 + 2).toNatClampNeg) s508 (fun x517 s518 => ext s508 s518 → fr 2 s508 s518 → w_X12_thrown a2 s518 (fun x519 s520 => ext s518 s520 → fr 2 s518 s520 → (x519 = x507 → (¬ x507 = 0 → K23 a1 a2 a3 (x4 + 7) s520 k511 n512) ∧ (x507 = 0 → vp_in 0 (sL s520 a3) ∧ ((jc (sA s520 a3 (0 : Int32).toNatClampNeg) x517) = 0 → K23 a1 a2 a3 (x4 + 7) s520 k511 n512) ∧ (¬ (jc (sA s520 a3 (0 : Int32).toNatClampNeg) x517) = 0 → False))) ∧ (¬ x519 = x507 → False))))
def w_L_law_1691 (L : Nat) (xs : Nat → Int32) (K23 : Nat → Nat → Nat → Int32 → St → Nat → Nat → Prop) (a1 : Nat) (a2 : Nat) (a3 : Nat) (x4 : Int32) (σ : St) (k : Nat) (n : Nat) : Prop :=
    vp_in (x4 + 1) L ∧ ∃ k528 n529 k530 n531 : Nat, k530 + k528 = k ∧ n531 + n529 = n ∧ w_L_pass k528 n529 a1 (xs (x4 + 1).toNatClampNeg) a3 σ (fun x526 s527 => ext σ s527 → fr 0 σ s527 → vp_in (x4 + 1) L ∧ w_X12_pass a2 (xs (x4 + 1).toNatClampNeg) s527 (fun x535 s536 => ext s527 s536 → fr 2 s527 s536 → w_X12_thrown a2 s536 (fun x537 s538 => ext s536 s538 → fr 2 s536 s538 → (x537 = x526 → (¬ x526 = 0 → K23 a1 a2 a3 (x4 + 7) s538 k530 n531) ∧ (x526 = 0 → vp_in 0 (sL s538 a3) ∧ ((jc (sA s538 a3 (0 : Int32).toNatClampNeg) x535) = 0 → K23 a1 a2 a3 (x4 + 7) s538 k530 n531) ∧ (¬ (jc (sA s538 a3 (0 : Int32).toNatClampNeg) x535) = 0 → False))) ∧ (¬ x537 = x526 → False))))
def w_L_law_1747 (L : Nat) (xs : Nat → Int32) (K23 : Nat → Nat → Nat → Int32 → St → Nat → Nat → Prop) (a1 : Nat) (a2 : Nat) (a3 : Nat) (x4 : Int32) (σ : St) (k : Nat) (n : Nat) : Prop :=
    vp_in (x4 + 1) L ∧ ∃ k546 n547 k548 n549 : Nat, k548 + k546 = k ∧ n549 + n547 = n ∧ w_L_where k546 n547 a1 (xs (x4 + 1).toNatClampNeg) a3 σ (fun x544 s545 => ext σ s545 → fr 0 σ s545 → vp_in (x4 + 1) L ∧ w_X12_where a2 (xs (x4 + 1).toNatClampNeg) s545 (fun x553 s554 => ext s545 s554 → fr 2 s545 s554 → w_X12_thrown a2 s554 (fun x555 s556 => ext s554 s556 → fr 2 s554 s556 → (x555 = x544 → (¬ x544 = 0 → K23 a1 a2 a3 (x4 + 7) s556 k548 n549) ∧ (x544 = 0 → vp_in 0 (sL s556 a3) ∧ ((jc (sA s556 a3 (0 : Int32).toNatClampNeg) x553) = 0 → K23 a1 a2 a3 (x4 + 7) s556 k548 n549) ∧ (¬ (jc (sA s556 a3 (0 : Int32).toNatClampNeg) x553) = 0 → False))) ∧ (¬ x555 = x544 → False))))
def w_L_law_1803 (L : Nat) (xs : Nat → Int32) (K23 : Nat → Nat → Nat → Int32 → St → Nat → Nat → Prop) (a1 : Nat) (a2 : Nat) (a3 : Nat) (x4 : Int32) (σ : St) (k : Nat) (n : Nat) : Prop :=
    vp_in (x4 + 1) L ∧ ∃ k564 n565 k566 n567 : Nat, k566 + k564 = k ∧ n567 + n565 = n ∧ w_L_doing k564 n565 a1 (xs (x4 + 1).toNatClampNeg) a3 σ (fun x562 s563 => ext σ s563 → fr 0 σ s563 → vp_in (x4 + 1) L ∧ w_X12_doing a2 (xs (x4 + 1).toNatClampNeg) s563 (fun x571 s572 => ext s563 s572 → fr 2 s563 s572 → w_X12_thrown a2 s572 (fun x573 s574 => ext s572 s574 → fr 2 s572 s574 → (x573 = x562 → (¬ x562 = 0 → K23 a1 a2 a3 (x4 + 7) s574 k566 n567) ∧ (x562 = 0 → vp_in 0 (sL s574 a3) ∧ ((jc (sA s574 a3 (0 : Int32).toNatClampNeg) x571) = 0 → K23 a1 a2 a3 (x4 + 7) s574 k566 n567) ∧ (¬ (jc (sA s574 a3 (0 : Int32).toNatClampNeg) x571) = 0 → False))) ∧ (¬ x573 = x562 → False))))
def w_L_law_1859 (L : Nat) (xs : Nat → Int32) (K23 : Nat → Nat → Nat → Int32 → St → Nat → Nat → Prop) (a1 : Nat) (a2 : Nat) (a3 : Nat) (x4 : Int32) (σ : St) (k : Nat) (n : Nat) : Prop :=
    w_X11_tasks a1 σ (fun x579 s580 => ext σ s580 → fr 1 σ s580 → w_X12_tasks a2 s580 (fun x581 s582 => ext s580 s582 → fr 2 s580 s582 → (x579 = x581 → K23 a1 a2 a3 (x4 + 7) s582 k n) ∧ (¬ x579 = x581 → False)))
def w_L_law_1872 (L : Nat) (xs : Nat → Int32) (K23 : Nat → Nat → Nat → Int32 → St → Nat → Nat → Prop) (a1 : Nat) (a2 : Nat) (a3 : Nat) (x4 : Int32) (σ : St) (k : Nat) (n : Nat) : Prop :=
    vp_in (x4 + 1) L ∧ ∃ k587 n588 k589 n590 : Nat, k589 + k587 = k ∧ n590 + n588 = n ∧ w_L_taskAt k587 n588 a1 (xs (x4 + 1).toNatClampNeg) a3 σ (fun x585 s586 => ext σ s586 → fr 0 σ s586 → vp_in (x4 + 1) L ∧ w_X12_taskAt a2 (xs (x4 + 1).toNatClampNeg) s586 (fun x594 s595 => ext s586 s595 → fr 2 s586 s595 → w_X12_thrown a2 s595 (fun x596 s597 => ext s595 s597 → fr 2 s595 s597 → (x596 = x585 → (¬ x585 = 0 → K23 a1 a2 a3 (x4 + 7) s597 k589 n590) ∧ (x585 = 0 → vp_in 0 (sL s597 a3) ∧ ((jc (sA s597 a3 (0 : Int32).toNatClampNeg) x594) = 0 → K23 a1 a2 a3 (x4 + 7) s597 k589 n590) ∧ (¬ (jc (sA s597 a3 (0 : Int32).toNatClampNeg) x594) = 0 → False))) ∧ (¬ x596 = x585 → False))))
def w_L_law_1928 (L : Nat) (xs : Nat → Int32) (K23 : Nat → Nat → Nat → Int32 → St → Nat → Nat → Prop) (a1 : Nat) (a2 : Nat) (a3 : Nat) (x4 : Int32) (σ : St) (k : Nat) (n : Nat) : Prop :=
    w_X11_standstills a1 σ (fun x602 s603 => ext σ s603 → fr 1 σ s603 → w_X12_standstills a2 s603 (fun x604 s605 => ext s603 s605 → fr 2 s603 s605 → (x602 = x604 → K23 a1 a2 a3 (x4 + 7) s605 k n) ∧ (¬ x602 = x604 → False)))
def w_L_law_1941 (L : Nat) (xs : Nat → Int32) (K23 : Nat → Nat → Nat → Int32 → St → Nat → Nat → Prop) (a1 : Nat) (a2 : Nat) (a3 : Nat) (x4 : Int32) (σ : St) (k : Nat) (n : Nat) : Prop :=
    vp_in (x4 + 1) L ∧ vp_in (x4 + 2) L ∧ vp_in (x4 + 3) L ∧ ∃ k612 n613 k614 n615 : Nat, k614 + k612 = k ∧ n615 + n613 = n ∧ w_L_lose k612 n613 a1 (xs (x4 + 1).toNatClampNeg) (xs (x4 + 2).toNatClampNeg) (xs (x4 + 3).toNatClampNeg) a3 σ (fun x610 s611 => ext σ s611 → fr 0 σ s611 → vp_in (x4 + 1) L ∧ vp_in (x4 + 2) L ∧ vp_in (x4 + 3) L ∧ w_X12_lose a2 (xs (x4 + 1).toNatClampNeg) (xs (x4 + 2).toNatClampNeg) (xs (x4 + 3).toNatClampNeg) s611 (fun x621 s622 => ext s611 s622 → fr 2 s611 s622 → w_X12_thrown a2 s622 (fun x623 s624 => ext s622 s624 → fr 2 s622 s624 → (x623 = x610 → (¬ x610 = 0 → K23 a1 a2 a3 (x4 + 7) s624 k614 n615) ∧ (x610 = 0 → vp_in 0 (sL s624 a3) ∧ ((jc (sA s624 a3 (0 : Int32).toNatClampNeg) x621) = 0 → K23 a1 a2 a3 (x4 + 7) s624 k614 n615) ∧ (¬ (jc (sA s624 a3 (0 : Int32).toNatClampNeg) x621) = 0 → False))) ∧ (¬ x623 = x610 → False))))
def w_L_law_2021 (L : Nat) (xs : Nat → Int32) (K23 : Nat → Nat → Nat → Int32 → St → Nat → Nat → Prop) (a1 : Nat) (a2 : Nat) (a3 : Nat) (x4 : Int32) (σ : St) (k : Nat) (n : Nat) : Prop :=
    vp_in (x4 + 1) L ∧ vp_in (x4 + 2) L ∧ ∃ k633 n634 k635 n636 : Nat, k635 + k633 = k ∧ n636 + n634 = n ∧ w_L_count k633 n634 a1 (xs (x4 + 1).toNatClampNeg) (xs (x4 + 2).toNatClampNeg) a3 σ (fun x631 s632 => ext σ s632 → fr 0 σ s632 → vp_in (x4 + 1) L ∧ vp_in (x4 + 2) L ∧ w_X12_count a2 (xs (x4 + 1).toNatClampNeg) (xs (x4 + 2).toNatClampNeg) s632 (fun x641 s642 => ext s632 s642 → fr 2 s632 s642 → w_X12_thrown a2 s642 (fun x643 s644 => ext s642 s644 → fr 2 s642 s644 → (x643 = x631 → (¬ x631 = 0 → K23 a1 a2 a3 (x4 + 7) s644 k635 n636) ∧ (x631 = 0 → vp_in 0 (sL s644 a3) ∧ ((jc (sA s644 a3 (0 : Int32).toNatClampNeg) x641) = 0 → K23 a1 a2 a3 (x4 + 7) s644 k635 n636) ∧ (¬ (jc (sA s644 a3 (0 : Int32).toNatClampNeg) x641) = 0 → False))) ∧ (¬ x643 = x631 → False))))
def w_L_law_2089 (L : Nat) (xs : Nat → Int32) (K23 : Nat → Nat → Nat → Int32 → St → Nat → Nat → Prop) (a1 : Nat) (a2 : Nat) (a3 : Nat) (x4 : Int32) (σ : St) (k : Nat) (n : Nat) : Prop :=
    vp_in (x4 + 1) L ∧ vp_in (x4 + 2) L ∧ vp_in (x4 + 3) L ∧ ∃ k654 n655 k656 n657 : Nat, k656 + k654 = k ∧ n657 + n655 = n ∧ w_L_find k654 n655 a1 (xs (x4 + 1).toNatClampNeg) (xs (x4 + 2).toNatClampNeg) (xs (x4 + 3).toNatClampNeg) a3 σ (fun x652 s653 => ext σ s653 → fr 0 σ s653 → vp_in (x4 + 1) L ∧ vp_in (x4 + 2) L ∧ vp_in (x4 + 3) L ∧ w_X12_find a2 (xs (x4 + 1).toNatClampNeg) (xs (x4 + 2).toNatClampNeg) (xs (x4 + 3).toNatClampNeg) s653 (fun x663 s664 => ext s653 s664 → fr 2 s653 s664 → w_X12_thrown a2 s664 (fun x665 s666 => ext s664 s666 → fr 2 s664 s666 → (x665 = x652 → (¬ x652 = 0 → K23 a1 a2 a3 (x4 + 7) s666 k656 n657) ∧ (x652 = 0 → vp_in 0 (sL s666 a3) ∧ ((jc (sA s666 a3 (0 : Int32).toNatClampNeg) x663) = 0 → K23 a1 a2 a3 (x4 + 7) s666 k656 n657) ∧ (¬ (jc (sA s666 a3 (0 : Int32).toNatClampNeg) x663) = 0 → False))) ∧ (¬ x665 = x652 → False))))
def w_L_law_2169 (L : Nat) (xs : Nat → Int32) (K23 : Nat → Nat → Nat → Int32 → St → Nat → Nat → Prop) (a1 : Nat) (a2 : Nat) (a3 : Nat) (x4 : Int32) (σ : St) (k : Nat) (n : Nat) : Prop :=
    vp_in (x4 + 1) L ∧ ∃ k674 n675 k676 n677 : Nat, k676 + k674 = k ∧ n677 + n675 = n ∧ w_L_boxes k674 n675 a1 (xs (x4 + 1).toNatClampNeg) a3 σ (fun x672 s673 => ext σ s673 → fr 0 σ s673 → vp_in (x4 + 1) L ∧ w_X12_boxes a2 (xs (x4 + 1).toNatClampNeg) s673 (fun x681 s682 => ext s673 s682 → fr 2 s673 s682 → w_X12_thrown a2 s682 (fun x683 s684 => ext s682 s684 → fr 2 s682 s684 → (x683 = x672 → (¬ x672 = 0 → K23 a1 a2 a3 (x4 + 7) s684 k676 n677) ∧ (x672 = 0 → vp_in 0 (sL s684 a3) ∧ ((jc (sA s684 a3 (0 : Int32).toNatClampNeg) x681) = 0 → K23 a1 a2 a3 (x4 + 7) s684 k676 n677) ∧ (¬ (jc (sA s684 a3 (0 : Int32).toNatClampNeg) x681) = 0 → False))) ∧ (¬ x683 = x672 → False))))
def w_L_law_2225 (L : Nat) (xs : Nat → Int32) (K23 : Nat → Nat → Nat → Int32 → St → Nat → Nat → Prop) (a1 : Nat) (a2 : Nat) (a3 : Nat) (x4 : Int32) (σ : St) (k : Nat) (n : Nat) : Prop :=
    vp_in (x4 + 1) L ∧ vp_in (x4 + 2) L ∧ ∃ k693 n694 k695 n696 : Nat, k695 + k693 = k ∧ n696 + n694 = n ∧ w_L_boxAt k693 n694 a1 (xs (x4 + 1).toNatClampNeg) (xs (x4 + 2).toNatClampNeg) a3 σ (fun x691 s692 => ext σ s692 → fr 0 σ s692 → vp_in (x4 + 1) L ∧ vp_in (x4 + 2) L ∧ w_X12_boxAt a2 (xs (x4 + 1).toNatClampNeg) (xs (x4 + 2).toNatClampNeg) s692 (fun x701 s702 => ext s692 s702 → fr 2 s692 s702 → w_X12_thrown a2 s702 (fun x703 s704 => ext s702 s704 → fr 2 s702 s704 → (x703 = x691 → (¬ x691 = 0 → K23 a1 a2 a3 (x4 + 7) s704 k695 n696) ∧ (x691 = 0 → vp_in 0 (sL s704 a3) ∧ ((jc (sA s704 a3 (0 : Int32).toNatClampNeg) x701) = 0 → K23 a1 a2 a3 (x4 + 7) s704 k695 n696) ∧ (¬ (jc (sA s704 a3 (0 : Int32).toNatClampNeg) x701) = 0 → False))) ∧ (¬ x703 = x691 → False))))
def w_L_law_2293 (L : Nat) (xs : Nat → Int32) (K23 : Nat → Nat → Nat → Int32 → St → Nat → Nat → Prop) (a1 : Nat) (a2 : Nat) (a3 : Nat) (x4 : Int32) (σ : St) (k : Nat) (n : Nat) : Prop :=
    vp_in (x4 + 1) L ∧ ∃ k712 n713 k714 n715 : Nat, k714 + k712 = k ∧ n715 + n713 = n ∧ w_L_send k712 n713 a1 (xs (x4 + 1).toNatClampNeg) a3 σ (fun x710 s711 => ext σ s711 → fr 0 σ s711 → vp_in (x4 + 1) L ∧ w_X12_send a2 (xs (x4 + 1).toNatClampNeg) s711 (fun x719 s720 => ext s711 s720 → fr 2 s711 s720 → w_X12_thrown a2 s720 (fun x721 s722 => ext s720 s722 → fr 2 s720 s722 → (x721 = x710 → (¬ x710 = 0 → K23 a1 a2 a3 (x4 + 7) s722 k714 n715) ∧ (x710 = 0 → vp_in 0 (sL s722 a3) ∧ ((jc (sA s722 a3 (0 : Int32).toNatClampNeg) x719) = 0 → K23 a1 a2 a3 (x4 + 7) s722 k714 n715) ∧ (¬ (jc (sA s722 a3 (0 : Int32).toNatClampNeg) x719) = 0 → False))) ∧ (¬ x721 = x710 → False))))
def w_L_law_2349 (L : Nat) (xs : Nat → Int32) (K23 : Nat → Nat → Nat → Int32 → St → Nat → Nat → Prop) (a1 : Nat) (a2 : Nat) (a3 : Nat) (x4 : Int32) (σ : St) (k : Nat) (n : Nat) : Prop :=
    vp_in (x4 + 1) L ∧ vp_in (x4 + 2) L ∧ ∃ k731 n732 k733 n734 : Nat, k733 + k731 = k ∧ n734 + n732 = n ∧ w_L_sent k731 n732 a1 (xs (x4 + 1).toNatClampNeg) (xs (x4 + 2).toNatClampNeg) a3 σ (fun x729 s730 => ext σ s730 → fr 0 σ s730 → vp_in (x4 + 1) L ∧ vp_in (x4 + 2) L ∧ w_X12_sent a2 (xs (x4 + 1).toNatClampNeg) (xs (x4 + 2).toNatClampNeg) s730 (fun x739 s740 => ext s730 s740 → fr 2 s730 s740 → w_X12_thrown a2 s740 (fun x741 s742 => ext s740 s742 → fr 2 s740 s742 → (x741 = x729 → (¬ x729 = 0 → K23 a1 a2 a3 (x4 + 7) s742 k733 n734) ∧ (x729 = 0 → vp_in 0 (sL s742 a3) ∧ ((jc (sA s742 a3 (0 : Int32).toNatClampNeg) x739) = 0 → K23 a1 a2 a3 (x4 + 7) s742 k733 n734) ∧ (¬ (jc (sA s742 a3 (0 : Int32).toNatClampNeg) x739) = 0 → False))) ∧ (¬ x741 = x729 → False))))
def w_L_law_2417 (L : Nat) (xs : Nat → Int32) (K23 : Nat → Nat → Nat → Int32 → St → Nat → Nat → Prop) (a1 : Nat) (a2 : Nat) (a3 : Nat) (x4 : Int32) (σ : St) (k : Nat) (n : Nat) : Prop :=
    vp_in (x4 + 1) L ∧ vp_in (x4 + 2) L ∧ ∃ k751 n752 k753 n754 : Nat, k753 + k751 = k ∧ n754 + n752 = n ∧ w_L_received k751 n752 a1 (xs (x4 + 1).toNatClampNeg) (xs (x4 + 2).toNatClampNeg) a3 σ (fun x749 s750 => ext σ s750 → fr 0 σ s750 → vp_in (x4 + 1) L ∧ vp_in (x4 + 2) L ∧ w_X12_received a2 (xs (x4 + 1).toNatClampNeg) (xs (x4 + 2).toNatClampNeg) s750 (fun x759 s760 => ext s750 s760 → fr 2 s750 s760 → w_X12_thrown a2 s760 (fun x761 s762 => ext s760 s762 → fr 2 s760 s762 → (x761 = x749 → (¬ x749 = 0 → K23 a1 a2 a3 (x4 + 7) s762 k753 n754) ∧ (x749 = 0 → vp_in 0 (sL s762 a3) ∧ ((jc (sA s762 a3 (0 : Int32).toNatClampNeg) x759) = 0 → K23 a1 a2 a3 (x4 + 7) s762 k753 n754) ∧ (¬ (jc (sA s762 a3 (0 : Int32).toNatClampNeg) x759) = 0 → False))) ∧ (¬ x761 = x749 → False))))
def w_L_law_2485 (L : Nat) (xs : Nat → Int32) (K23 : Nat → Nat → Nat → Int32 → St → Nat → Nat → Prop) (a1 : Nat) (a2 : Nat) (a3 : Nat) (x4 : Int32) (σ : St) (k : Nat) (n : Nat) : Prop :=
    vp_in (x4 + 1) L ∧ vp_in (x4 + 2) L ∧ vp_in (x4 + 3) L ∧ ∃ k772 n773 k774 n775 : Nat, k774 + k772 = k ∧ n775 + n773 = n ∧ w_L_comeBack k772 n773 a1 (xs (x4 + 1).toNatClampNeg) (xs (x4 + 2).toNatClampNeg) (xs (x4 + 3).toNatClampNeg) a3 σ (fun x770 s771 => ext σ s771 → fr 0 σ s771 → vp_in (x4 + 1) L ∧ vp_in (x4 + 2) L ∧ vp_in (x4 + 3) L ∧ w_X12_comeBack a2 (xs (x4 + 1).toNatClampNeg) (xs (x4 + 2).toNatClampNeg) (xs (x4 + 3).toNatClampNeg) s771 (fun x781 s782 => ext s771 s782 → fr 2 s771 s782 → w_X12_thrown a2 s782 (fun x783 s784 => ext s782 s784 → fr 2 s782 s784 → (x783 = x770 → (¬ x770 = 0 → K23 a1 a2 a3 (x4 + 7) s784 k774 n775) ∧ (x770 = 0 → vp_in 0 (sL s784 a3) ∧ ((jc (sA s784 a3 (0 : Int32).toNatClampNeg) x781) = 0 → K23 a1 a2 a3 (x4 + 7) s784 k774 n775) ∧ (¬ (jc (sA s784 a3 (0 : Int32).toNatClampNeg) x781) = 0 → False))) ∧ (¬ x783 = x770 → False))))
def w_L_law_2625 (L : Nat) (xs : Nat → Int32) (K23 : Nat → Nat → Nat → Int32 → St → Nat → Nat → Prop) (a1 : Nat) (a2 : Nat) (a3 : Nat) (x4 : Int32) (x5 : Int32) (as0 : Nat) (xs1 : Int32) (xs2 : Int32) (xs3 : Int32) (σ : St) (k : Nat) (n : Nat) : Prop :=
    w_X12_judge as0 xs1 xs2 xs3 σ (fun x805 s806 => ext σ s806 → fr 2 σ s806 → w_X12_thrown a2 s806 (fun x807 s808 => ext s806 s808 → fr 2 s806 s808 → (x807 = x5 → (¬ x5 = 0 → K23 a1 a2 a3 (x4 + 7) s808 k n) ∧ (x5 = 0 → vp_in 0 (sL s808 a3) ∧ ((jc (sA s808 a3 (0 : Int32).toNatClampNeg) x805) = 0 → K23 a1 a2 a3 (x4 + 7) s808 k n) ∧ (¬ (jc (sA s808 a3 (0 : Int32).toNatClampNeg) x805) = 0 → False))) ∧ (¬ x807 = x5 → False)))
def w_L_law_2592 (L : Nat) (xs : Nat → Int32) (K23 : Nat → Nat → Nat → Int32 → St → Nat → Nat → Prop) (a1 : Nat) (a2 : Nat) (a3 : Nat) (x4 : Int32) (as0 : Nat) (xs1 : Int32) (xs2 : Int32) (xs3 : Int32) (σ : St) (k : Nat) (n : Nat) : Prop :=
    ∃ k795 n796 k797 n798 : Nat, k797 + k795 = k ∧ n798 + n796 = n ∧ w_L_judge k795 n796 as0 xs1 xs2 xs3 a3 σ (fun x793 s794 => ext σ s794 → fr 0 σ s794 → vp_in (x4 + 1) L ∧ vp_in (x4 + 2) L ∧ vp_in (x4 + 3) L ∧ ((xs (x4 + 3).toNatClampNeg) = 0 → w_L_law_2625 L xs K23 a1 a2 a3 x4 x793 a2 (xs (x4 + 1).toNatClampNeg) (xs (x4 + 2).toNatClampNeg) 0 s794 k797 n798) ∧ (¬ (xs (x4 + 3).toNatClampNeg) = 0 → w_L_law_2625 L xs K23 a1 a2 a3 x4 x793 a2 (xs (x4 + 1).toNatClampNeg) (xs (x4 + 2).toNatClampNeg) 1 s794 k797 n798))
def w_L_law_2565 (L : Nat) (xs : Nat → Int32) (K23 : Nat → Nat → Nat → Int32 → St → Nat → Nat → Prop) (a1 : Nat) (a2 : Nat) (a3 : Nat) (x4 : Int32) (σ : St) (k : Nat) (n : Nat) : Prop :=
    vp_in (x4 + 1) L ∧ vp_in (x4 + 2) L ∧ vp_in (x4 + 3) L ∧ ((xs (x4 + 3).toNatClampNeg) = 0 → w_L_law_2592 L xs K23 a1 a2 a3 x4 a1 (xs (x4 + 1).toNatClampNeg) (xs (x4 + 2).toNatClampNeg) 0 σ k n) ∧ (¬ (xs (x4 + 3).toNatClampNeg) = 0 → w_L_law_2592 L xs K23 a1 a2 a3 x4 a1 (xs (x4 + 1).toNatClampNeg) (xs (x4 + 2).toNatClampNeg) 1 σ k n)
def w_L_law_2661 (L : Nat) (xs : Nat → Int32) (K23 : Nat → Nat → Nat → Int32 → St → Nat → Nat → Prop) (a1 : Nat) (a2 : Nat) (a3 : Nat) (x4 : Int32) (σ : St) (k : Nat) (n : Nat) : Prop :=
    vp_in (x4 + 1) L ∧ ∃ k816 n817 k818 n819 : Nat, k818 + k816 = k ∧ n819 + n817 = n ∧ w_L_recall k816 n817 a1 (xs (x4 + 1).toNatClampNeg) a3 σ (fun x814 s815 => ext σ s815 → fr 0 σ s815 → vp_in (x4 + 1) L ∧ w_X12_recall a2 (xs (x4 + 1).toNatClampNeg) s815 (fun x823 s824 => ext s815 s824 → fr 2 s815 s824 → w_X12_thrown a2 s824 (fun x825 s826 => ext s824 s826 → fr 2 s824 s826 → (x825 = x814 → (¬ x814 = 0 → K23 a1 a2 a3 (x4 + 7) s826 k818 n819) ∧ (x814 = 0 → vp_in 0 (sL s826 a3) ∧ ((jc (sA s826 a3 (0 : Int32).toNatClampNeg) x823) = 0 → K23 a1 a2 a3 (x4 + 7) s826 k818 n819) ∧ (¬ (jc (sA s826 a3 (0 : Int32).toNatClampNeg) x823) = 0 → False))) ∧ (¬ x825 = x814 → False))))
def w_L_law_2717 (L : Nat) (xs : Nat → Int32) (K23 : Nat → Nat → Nat → Int32 → St → Nat → Nat → Prop) (a1 : Nat) (a2 : Nat) (a3 : Nat) (x4 : Int32) (σ : St) (k : Nat) (n : Nat) : Prop :=
    w_X11_bill a1 σ (fun x831 s832 => ext σ s832 → fr 1 σ s832 → w_X12_bill a2 s832 (fun x833 s834 => ext s832 s834 → fr 2 s832 s834 → (x831 = x833 → K23 a1 a2 a3 (x4 + 7) s834 k n) ∧ (¬ x831 = x833 → False)))
set_option maxRecDepth 100000 in
def w_L_law_23 (L : Nat) (xs : Nat → Int32)  : Nat → Nat → Nat → Nat → Int32 → St → Nat → Nat → Prop
  | 0, _, _, _, _, _, _, _ => False
  | f + 1, a1, a2, a3, x4, σ, k, n =>
    (((Int32.ofNat L) - 7) < x4 → True) ∧ (¬ ((Int32.ofNat L) - 7) < x4 → vp_in x4 L ∧ (((xs x4.toNatClampNeg) &&& 63).toInt < 0 ∨ 39 < ((xs x4.toNatClampNeg) &&& 63).toInt → w_L_law_23 L xs  f a1 a2 a3 (x4 + 7) σ k n) ∧ (((xs x4.toNatClampNeg) &&& 63).toInt = 0 → w_L_law_216 L xs (w_L_law_23 L xs  f) a1 a2 a3 x4 σ k n) ∧ (((xs x4.toNatClampNeg) &&& 63).toInt = 1 → w_L_law_276 L xs (w_L_law_23 L xs  f) a1 a2 a3 x4 σ k n) ∧ (((xs x4.toNatClampNeg) &&& 63).toInt = 2 → w_L_law_348 L xs (w_L_law_23 L xs  f) a1 a2 a3 x4 σ k n) ∧ (((xs x4.toNatClampNeg) &&& 63).toInt = 3 → w_L_law_446 L xs (w_L_law_23 L xs  f) a1 a2 a3 x4 σ k n) ∧ (((xs x4.toNatClampNeg) &&& 63).toInt = 4 → w_L_law_549 L xs (w_L_law_23 L xs  f) a1 a2 a3 x4 σ k n) ∧ (((xs x4.toNatClampNeg) &&& 63).toInt = 5 → w_L_law_617 L xs (w_L_law_23 L xs  f) a1 a2 a3 x4 σ k n) ∧ (((xs x4.toNatClampNeg) &&& 63).toInt = 6 → w_L_law_685 L xs (w_L_law_23 L xs  f) a1 a2 a3 x4 σ k n) ∧ (((xs x4.toNatClampNeg) &&& 63).toInt = 7 → w_L_law_753 L xs (w_L_law_23 L xs  f) a1 a2 a3 x4 σ k n) ∧ (((xs x4.toNatClampNeg) &&& 63).toInt = 8 → w_L_law_821 L xs (w_L_law_23 L xs  f) a1 a2 a3 x4 σ k n) ∧ (((xs x4.toNatClampNeg) &&& 63).toInt = 9 → w_L_law_877 L xs (w_L_law_23 L xs  f) a1 a2 a3 x4 σ k n) ∧ (((xs x4.toNatClampNeg) &&& 63).toInt = 10 → w_L_law_945 L xs (w_L_law_23 L xs  f) a1 a2 a3 x4 σ k n) ∧ (((xs x4.toNatClampNeg) &&& 63).toInt = 11 → w_L_law_1025 L xs (w_L_law_23 L xs  f) a1 a2 a3 x4 σ k n) ∧ (((xs x4.toNatClampNeg) &&& 63).toInt = 12 → w_L_law_1081 L xs (w_L_law_23 L xs  f) a1 a2 a3 x4 σ k n) ∧ (((xs x4.toNatClampNeg) &&& 63).toInt = 13 → w_L_law_1137 L xs (w_L_law_23 L xs  f) a1 a2 a3 x4 σ k n) ∧ (((xs x4.toNatClampNeg) &&& 63).toInt = 14 → w_L_law_1205 L xs (w_L_law_23 L xs  f) a1 a2 a3 x4 σ k n) ∧ (((xs x4.toNatClampNeg) &&& 63).toInt = 15 → w_L_law_1218 L xs (w_L_law_23 L xs  f) a1 a2 a3 x4 σ k n) ∧ (((xs x4.toNatClampNeg) &&& 63).toInt = 16 → w_L_law_1314 L xs (w_L_law_23 L xs  f) a1 a2 a3 x4 σ k n) ∧ (((xs x4.toNatClampNeg) &&& 63).toInt = 17 → w_L_law_1394 L xs (w_L_law_23 L xs  f) a1 a2 a3 x4 σ k n) ∧ (((xs x4.toNatClampNeg) &&& 63).toInt = 18 → w_L_law_1407 L xs (w_L_law_23 L xs  f) a1 a2 a3 x4 σ k n) ∧ (((xs x4.toNatClampNeg) &&& 63).toInt = 19 → w_L_law_1475 L xs (w_L_law_23 L xs  f) a1 a2 a3 x4 σ k n) ∧ (((xs x4.toNatClampNeg) &&& 63).toInt = 20 → w_L_law_1555 L xs (w_L_law_23 L xs  f) a1 a2 a3 x4 σ k n) ∧ (((xs x4.toNatClampNeg) &&& 63).toInt = 21 → w_L_law_1623 L xs (w_L_law_23 L xs  f) a1 a2 a3 x4 σ k n) ∧ (((xs x4.toNatClampNeg) &&& 63).toInt = 22 → w_L_law_1691 L xs (w_L_law_23 L xs  f) a1 a2 a3 x4 σ k n) ∧ (((xs x4.toNatClampNeg) &&& 63).toInt = 23 → w_L_law_1747 L xs (w_L_law_23 L xs  f) a1 a2 a3 x4 σ k n) ∧ (((xs x4.toNatClampNeg) &&& 63).toInt = 24 → w_L_law_1803 L xs (w_L_law_23 L xs  f) a1 a2 a3 x4 σ k n) ∧ (((xs x4.toNatClampNeg) &&& 63).toInt = 25 → w_L_law_1859 L xs (w_L_law_23 L xs  f) a1 a2 a3 x4 σ k n) ∧ (((xs x4.toNatClampNeg) &&& 63).toInt = 26 → w_L_law_1872 L xs (w_L_law_23 L xs  f) a1 a2 a3 x4 σ k n) ∧ (((xs x4.toNatClampNeg) &&& 63).toInt = 27 → w_L_law_1928 L xs (w_L_law_23 L xs  f) a1 a2 a3 x4 σ k n) ∧ (((xs x4.toNatClampNeg) &&& 63).toInt = 28 → w_L_law_1941 L xs (w_L_law_23 L xs  f) a1 a2 a3 x4 σ k n) ∧ (((xs x4.toNatClampNeg) &&& 63).toInt = 29 → w_L_law_2021 L xs (w_L_law_23 L xs  f) a1 a2 a3 x4 σ k n) ∧ (((xs x4.toNatClampNeg) &&& 63).toInt = 30 → w_L_law_2089 L xs (w_L_law_23 L xs  f) a1 a2 a3 x4 σ k n) ∧ (((xs x4.toNatClampNeg) &&& 63).toInt = 31 → w_L_law_2169 L xs (w_L_law_23 L xs  f) a1 a2 a3 x4 σ k n) ∧ (((xs x4.toNatClampNeg) &&& 63).toInt = 32 → w_L_law_2225 L xs (w_L_law_23 L xs  f) a1 a2 a3 x4 σ k n) ∧ (((xs x4.toNatClampNeg) &&& 63).toInt = 33 → w_L_law_2293 L xs (w_L_law_23 L xs  f) a1 a2 a3 x4 σ k n) ∧ (((xs x4.toNatClampNeg) &&& 63).toInt = 34 → w_L_law_2349 L xs (w_L_law_23 L xs  f) a1 a2 a3 x4 σ k n) ∧ (((xs x4.toNatClampNeg) &&& 63).toInt = 35 → w_L_law_2417 L xs (w_L_law_23 L xs  f) a1 a2 a3 x4 σ k n) ∧ (((xs x4.toNatClampNeg) &&& 63).toInt = 36 → w_L_law_2485 L xs (w_L_law_23 L xs  f) a1 a2 a3 x4 σ k n) ∧ (((xs x4.toNatClampNeg) &&& 63).toInt = 37 → w_L_law_2565 L xs (w_L_law_23 L xs  f) a1 a2 a3 x4 σ k n) ∧ (((xs x4.toNatClampNeg) &&& 63).toInt = 38 → w_L_law_2661 L xs (w_L_law_23 L xs  f) a1 a2 a3 x4 σ k n) ∧ (((xs x4.toNatClampNeg) &&& 63).toInt = 39 → w_L_law_2717 L xs (w_L_law_23 L xs  f) a1 a2 a3 x4 σ k n))
def w_L_law (L : Nat) (xs : Nat → Int32) (k n : Nat) (σ : St) : Prop :=
    ∃ k51 n52 : Nat, k51 + 1 = k ∧ n52 + 19 = n ∧ ∀ (a55 : Nat) (s56 : St), sK σ a55 = 0 → s56 = newO 12 a55 σ → ∃ k59 n60 k61 n62 : Nat, k61 + k59 = k51 ∧ n62 + n60 = n52 ∧ w_X11_init k59 n60 a55 s56 (fun s58 => ext s56 s58 → fr 1 s56 s58 → ∃ k65 n66 : Nat, k65 + 1 = k61 ∧ n66 + 65 = n62 ∧ ∀ (a69 : Nat) (s70 : St), sK s58 a69 = 0 → s70 = newO 13 a69 s58 → ∃ k73 n74 k75 n76 : Nat, k75 + k73 = k65 ∧ n76 + n74 = n66 ∧ w_X12_init k73 n74 a69 s70 (fun s72 => ext s70 s72 → fr 2 s70 s72 → ¬ (1 : Int32) < 0 ∧ (1 : Int32).toNatClampNeg ≤ 60000000 ∧ ∃ k81 n82 : Nat, k81 + 1 = k75 ∧ n82 + ((1 : Int32).toNatClampNeg) = n76 ∧ ∀ (a85 : Nat) (s86 : St), sK s72 a85 = 0 → s86 = newA 23 a85 (1 : Int32).toNatClampNeg s72 → ∃ f836 : Nat, w_L_law_23 L xs  f836 a55 a69 a85 0 s86 k81 n82))
theorem lk_kRL_8 : Cond.classLink RL 8 RX11 ∈ gTB := gTm (i := 36) (by decide +kernel) rfl
theorem lk_tX11 : Cond.instantiable RX11 19 ∈ gTB := gTm (i := 37) (by decide +kernel) rfl
theorem dfl_X11 : ∀ j, j < 19 → defaultValue (tyX11 j) = vp_V ((kF 12).map fD) j := by decide +kernel
theorem lk_c_X11_init : Cond.code yX11_init cX11_init 2 none ∈ gTB := gTm (i := 40) (by decide +kernel) rfl
theorem lk_mRL_129 : Cond.methodLink RL 129 yX11_init ∈ gTB := gTm (i := 38) (by decide +kernel) rfl
theorem lk_i_X11_init : Cond.instanceMethod yX11_init ∈ gTB := gTm (i := 39) (by decide +kernel) rfl
theorem lk_kRL_130 : Cond.classLink RL 130 RX12 ∈ gTB := gTm (i := 1438) (by decide +kernel) rfl
theorem lk_tX12 : Cond.instantiable RX12 65 ∈ gTB := gTm (i := 1439) (by decide +kernel) rfl
theorem dfl_X12 : ∀ j, j < 65 → defaultValue (tyX12 j) = vp_V ((kF 13).map fD) j := by decide +kernel
theorem lk_c_X12_init : Cond.code yX12_init cX12_init 2 none ∈ gTB := gTm (i := 1442) (by decide +kernel) rfl
theorem lk_mRL_132 : Cond.methodLink RL 132 yX12_init ∈ gTB := gTm (i := 1440) (by decide +kernel) rfl
theorem lk_i_X12_init : Cond.instanceMethod yX12_init ∈ gTB := gTm (i := 1441) (by decide +kernel) rfl
theorem lk_aclong : Cond.arrayClass .long ∈ gTB := gTm (i := 2005) (by decide +kernel) rfl
theorem lk_c_L_slot : Cond.codeWith yL_slot cL_slot 5 (some .int) [(0, 7, 10, 13), (0, 7, 14, 15), (0, 7, 18, 17)] ∈ gTB := gTm (i := 503) (by decide +kernel) rfl
theorem lk_mRL_133 : Cond.methodLink RL 133 yL_slot ∈ gTB := gTm (i := 501) (by decide +kernel) rfl
theorem lk_s_L_slot : Cond.static yL_slot ∈ gTB := gTm (i := 502) (by decide +kernel) rfl
theorem lk_n_RL : Cond.initialized RL ∈ gTB := gTm (i := 0) (by decide +kernel) rfl
theorem lk_sRL_133 : ∀ w ∈ va_wsS RL 133 yL_slot (gWW yL_slot cL_slot 5 (some .int) [(0, 7, 10, 13), (0, 7, 14, 15), (0, 7, 18, 17)]), w ∈ gTB := gSW_in lk_mRL_133 lk_s_L_slot lk_n_RL lk_c_L_slot
theorem lk_mRL_138 : Cond.methodLink RL 138 yX12_slot ∈ gTB := gTm (i := 1645) (by decide +kernel) rfl
theorem lk_i_X12_slot : Cond.instanceMethod yX12_slot ∈ gTB := gTm (i := 1646) (by decide +kernel) rfl
theorem lk_e_X12_slot : Cond.selects RX12 yX12_slot yX12_slot ∈ gTB := gTm (i := 1647) (by decide +kernel) rfl
theorem lk_c_X12_slot : Cond.code yX12_slot cX12_slot 5 none ∈ gTB := gTm (i := 1648) (by decide +kernel) rfl
theorem lk_vRL_138 : ∀ w ∈ wsV RL 138 RX12 yX12_slot (gW yX12_slot cX12_slot 5 none), w ∈ gTB := gV_in lk_mRL_138 lk_i_X12_slot lk_e_X12_slot lk_n_RX12 lk_c_X12_slot
theorem lk_mRL_139 : Cond.methodLink RL 139 yX12_thrown ∈ gTB := gTm (i := 1641) (by decide +kernel) rfl
theorem lk_i_X12_thrown : Cond.instanceMethod yX12_thrown ∈ gTB := gTm (i := 1642) (by decide +kernel) rfl
theorem lk_e_X12_thrown : Cond.selects RX12 yX12_thrown yX12_thrown ∈ gTB := gTm (i := 1643) (by decide +kernel) rfl
theorem lk_c_X12_thrown : Cond.code yX12_thrown cX12_thrown 1 (some .int) ∈ gTB := gTm (i := 1644) (by decide +kernel) rfl
theorem lk_vRL_139 : ∀ w ∈ wsV RL 139 RX12 yX12_thrown (gW yX12_thrown cX12_thrown 1 (some .int)), w ∈ gTB := gV_in lk_mRL_139 lk_i_X12_thrown lk_e_X12_thrown lk_n_RX12 lk_c_X12_thrown
theorem lk_c_L_face : Cond.codeWith yL_face cL_face 6 (some .int) [(0, 9, 12, 13), (0, 9, 16, 15), (0, 9, 20, 17)] ∈ gTB := gTm (i := 618) (by decide +kernel) rfl
theorem lk_mRL_143 : Cond.methodLink RL 143 yL_face ∈ gTB := gTm (i := 616) (by decide +kernel) rfl
theorem lk_s_L_face : Cond.static yL_face ∈ gTB := gTm (i := 617) (by decide +kernel) rfl
theorem lk_sRL_143 : ∀ w ∈ va_wsS RL 143 yL_face (gWW yL_face cL_face 6 (some .int) [(0, 9, 12, 13), (0, 9, 16, 15), (0, 9, 20, 17)]), w ∈ gTB := gSW_in lk_mRL_143 lk_s_L_face lk_n_RL lk_c_L_face
theorem lk_mRL_146 : Cond.methodLink RL 146 yX12_face ∈ gTB := gTm (i := 1675) (by decide +kernel) rfl
theorem lk_i_X12_face : Cond.instanceMethod yX12_face ∈ gTB := gTm (i := 1676) (by decide +kernel) rfl
theorem lk_e_X12_face : Cond.selects RX12 yX12_face yX12_face ∈ gTB := gTm (i := 1677) (by decide +kernel) rfl
theorem lk_c_X12_face : Cond.code yX12_face cX12_face 9 none ∈ gTB := gTm (i := 1678) (by decide +kernel) rfl
theorem lk_vRL_146 : ∀ w ∈ wsV RL 146 RX12 yX12_face (gW yX12_face cX12_face 9 none), w ∈ gTB := gV_in lk_mRL_146 lk_i_X12_face lk_e_X12_face lk_n_RX12 lk_c_X12_face
theorem lk_c_L_item : Cond.codeWith yL_item cL_item 8 (some .int) [(0, 13, 16, 13), (0, 13, 20, 15), (0, 13, 24, 17)] ∈ gTB := gTm (i := 628) (by decide +kernel) rfl
theorem lk_mRL_147 : Cond.methodLink RL 147 yL_item ∈ gTB := gTm (i := 626) (by decide +kernel) rfl
theorem lk_s_L_item : Cond.static yL_item ∈ gTB := gTm (i := 627) (by decide +kernel) rfl
theorem lk_sRL_147 : ∀ w ∈ va_wsS RL 147 yL_item (gWW yL_item cL_item 8 (some .int) [(0, 13, 16, 13), (0, 13, 20, 15), (0, 13, 24, 17)]), w ∈ gTB := gSW_in lk_mRL_147 lk_s_L_item lk_n_RL lk_c_L_item
theorem lk_mRL_150 : Cond.methodLink RL 150 yX12_item ∈ gTB := gTm (i := 1682) (by decide +kernel) rfl
theorem lk_i_X12_item : Cond.instanceMethod yX12_item ∈ gTB := gTm (i := 1683) (by decide +kernel) rfl
theorem lk_e_X12_item : Cond.selects RX12 yX12_item yX12_item ∈ gTB := gTm (i := 1684) (by decide +kernel) rfl
theorem lk_c_X12_item : Cond.code yX12_item cX12_item 11 none ∈ gTB := gTm (i := 1685) (by decide +kernel) rfl
theorem lk_vRL_150 : ∀ w ∈ wsV RL 150 RX12 yX12_item (gW yX12_item cX12_item 11 none), w ∈ gTB := gV_in lk_mRL_150 lk_i_X12_item lk_e_X12_item lk_n_RX12 lk_c_X12_item
theorem lk_c_L_bar : Cond.codeWith yL_bar cL_bar 6 (some .int) [(0, 19, 22, 13)] ∈ gTB := gTm (i := 642) (by decide +kernel) rfl
theorem lk_mRL_151 : Cond.methodLink RL 151 yL_bar ∈ gTB := gTm (i := 640) (by decide +kernel) rfl
theorem lk_s_L_bar : Cond.static yL_bar ∈ gTB := gTm (i := 641) (by decide +kernel) rfl
theorem lk_sRL_151 : ∀ w ∈ va_wsS RL 151 yL_bar (gWW yL_bar cL_bar 6 (some .int) [(0, 19, 22, 13)]), w ∈ gTB := gSW_in lk_mRL_151 lk_s_L_bar lk_n_RL lk_c_L_bar
theorem lk_mRL_154 : Cond.methodLink RL 154 yX12_bar ∈ gTB := gTm (i := 1689) (by decide +kernel) rfl
theorem lk_i_X12_bar : Cond.instanceMethod yX12_bar ∈ gTB := gTm (i := 1690) (by decide +kernel) rfl
theorem lk_e_X12_bar : Cond.selects RX12 yX12_bar yX12_bar ∈ gTB := gTm (i := 1691) (by decide +kernel) rfl
theorem lk_c_X12_bar : Cond.code yX12_bar cX12_bar 5 (some .boolean) ∈ gTB := gTm (i := 1692) (by decide +kernel) rfl
theorem lk_vRL_154 : ∀ w ∈ wsV RL 154 RX12 yX12_bar (gW yX12_bar cX12_bar 5 (some .boolean)), w ∈ gTB := gV_in lk_mRL_154 lk_i_X12_bar lk_e_X12_bar lk_n_RX12 lk_c_X12_bar
theorem lk_c_L_lot : Cond.codeWith yL_lot cL_lot 5 (some .int) [(0, 10, 13, 13), (0, 10, 17, 15), (0, 10, 21, 17)] ∈ gTB := gTm (i := 652) (by decide +kernel) rfl
theorem lk_mRL_155 : Cond.methodLink RL 155 yL_lot ∈ gTB := gTm (i := 650) (by decide +kernel) rfl
theorem lk_s_L_lot : Cond.static yL_lot ∈ gTB := gTm (i := 651) (by decide +kernel) rfl
theorem lk_sRL_155 : ∀ w ∈ va_wsS RL 155 yL_lot (gWW yL_lot cL_lot 5 (some .int) [(0, 10, 13, 13), (0, 10, 17, 15), (0, 10, 21, 17)]), w ∈ gTB := gSW_in lk_mRL_155 lk_s_L_lot lk_n_RL lk_c_L_lot
theorem lk_mRL_158 : Cond.methodLink RL 158 yX12_lot ∈ gTB := gTm (i := 1693) (by decide +kernel) rfl
theorem lk_i_X12_lot : Cond.instanceMethod yX12_lot ∈ gTB := gTm (i := 1694) (by decide +kernel) rfl
theorem lk_e_X12_lot : Cond.selects RX12 yX12_lot yX12_lot ∈ gTB := gTm (i := 1695) (by decide +kernel) rfl
theorem lk_c_X12_lot : Cond.code yX12_lot cX12_lot 3 (some .int) ∈ gTB := gTm (i := 1696) (by decide +kernel) rfl
theorem lk_vRL_158 : ∀ w ∈ wsV RL 158 RX12 yX12_lot (gW yX12_lot cX12_lot 3 (some .int)), w ∈ gTB := gV_in lk_mRL_158 lk_i_X12_lot lk_e_X12_lot lk_n_RX12 lk_c_X12_lot
theorem lk_c_L_stock : Cond.codeWith yL_stock cL_stock 5 (some .int) [(0, 10, 13, 13)] ∈ gTB := gTm (i := 943) (by decide +kernel) rfl
theorem lk_mRL_159 : Cond.methodLink RL 159 yL_stock ∈ gTB := gTm (i := 941) (by decide +kernel) rfl
theorem lk_s_L_stock : Cond.static yL_stock ∈ gTB := gTm (i := 942) (by decide +kernel) rfl
theorem lk_sRL_159 : ∀ w ∈ va_wsS RL 159 yL_stock (gWW yL_stock cL_stock 5 (some .int) [(0, 10, 13, 13)]), w ∈ gTB := gSW_in lk_mRL_159 lk_s_L_stock lk_n_RL lk_c_L_stock
theorem lk_mRL_161 : Cond.methodLink RL 161 yX12_stock ∈ gTB := gTm (i := 1697) (by decide +kernel) rfl
theorem lk_i_X12_stock : Cond.instanceMethod yX12_stock ∈ gTB := gTm (i := 1698) (by decide +kernel) rfl
theorem lk_e_X12_stock : Cond.selects RX12 yX12_stock yX12_stock ∈ gTB := gTm (i := 1699) (by decide +kernel) rfl
theorem lk_c_X12_stock : Cond.code yX12_stock cX12_stock 3 (some .int) ∈ gTB := gTm (i := 1700) (by decide +kernel) rfl
theorem lk_vRL_161 : ∀ w ∈ wsV RL 161 RX12 yX12_stock (gW yX12_stock cX12_stock 3 (some .int)), w ∈ gTB := gV_in lk_mRL_161 lk_i_X12_stock lk_e_X12_stock lk_n_RX12 lk_c_X12_stock
theorem lk_c_L_stockAnew : Cond.codeWith yL_stockAnew cL_stockAnew 5 (some .int) [(0, 10, 13, 13)] ∈ gTB := gTm (i := 954) (by decide +kernel) rfl
theorem lk_mRL_162 : Cond.methodLink RL 162 yL_stockAnew ∈ gTB := gTm (i := 952) (by decide +kernel) rfl
theorem lk_s_L_stockAnew : Cond.static yL_stockAnew ∈ gTB := gTm (i := 953) (by decide +kernel) rfl
theorem lk_sRL_162 : ∀ w ∈ va_wsS RL 162 yL_stockAnew (gWW yL_stockAnew cL_stockAnew 5 (some .int) [(0, 10, 13, 13)]), w ∈ gTB := gSW_in lk_mRL_162 lk_s_L_stockAnew lk_n_RL lk_c_L_stockAnew
theorem lk_mRL_164 : Cond.methodLink RL 164 yX12_stockAnew ∈ gTB := gTm (i := 1709) (by decide +kernel) rfl
theorem lk_i_X12_stockAnew : Cond.instanceMethod yX12_stockAnew ∈ gTB := gTm (i := 1710) (by decide +kernel) rfl
theorem lk_e_X12_stockAnew : Cond.selects RX12 yX12_stockAnew yX12_stockAnew ∈ gTB := gTm (i := 1711) (by decide +kernel) rfl
theorem lk_c_X12_stockAnew : Cond.code yX12_stockAnew cX12_stockAnew 3 (some .int) ∈ gTB := gTm (i := 1712) (by decide +kernel) rfl
theorem lk_vRL_164 : ∀ w ∈ wsV RL 164 RX12 yX12_stockAnew (gW yX12_stockAnew cX12_stockAnew 3 (some .int)), w ∈ gTB := gV_in lk_mRL_164 lk_i_X12_stockAnew lk_e_X12_stockAnew lk_n_RX12 lk_c_X12_stockAnew
theorem lk_c_L_free : Cond.codeWith yL_free cL_free 5 (some .int) [(0, 10, 13, 13)] ∈ gTB := gTm (i := 965) (by decide +kernel) rfl
theorem lk_mRL_165 : Cond.methodLink RL 165 yL_free ∈ gTB := gTm (i := 963) (by decide +kernel) rfl
theorem lk_s_L_free : Cond.static yL_free ∈ gTB := gTm (i := 964) (by decide +kernel) rfl
theorem lk_sRL_165 : ∀ w ∈ va_wsS RL 165 yL_free (gWW yL_free cL_free 5 (some .int) [(0, 10, 13, 13)]), w ∈ gTB := gSW_in lk_mRL_165 lk_s_L_free lk_n_RL lk_c_L_free
theorem lk_mRL_167 : Cond.methodLink RL 167 yX12_free ∈ gTB := gTm (i := 1713) (by decide +kernel) rfl
theorem lk_i_X12_free : Cond.instanceMethod yX12_free ∈ gTB := gTm (i := 1714) (by decide +kernel) rfl
theorem lk_e_X12_free : Cond.selects RX12 yX12_free yX12_free ∈ gTB := gTm (i := 1715) (by decide +kernel) rfl
theorem lk_c_X12_free : Cond.code yX12_free cX12_free 3 (some .int) ∈ gTB := gTm (i := 1716) (by decide +kernel) rfl
theorem lk_vRL_167 : ∀ w ∈ wsV RL 167 RX12 yX12_free (gW yX12_free cX12_free 3 (some .int)), w ∈ gTB := gV_in lk_mRL_167 lk_i_X12_free lk_e_X12_free lk_n_RX12 lk_c_X12_free
theorem lk_c_L_room : Cond.codeWith yL_room cL_room 4 (some .int) [(0, 9, 12, 13)] ∈ gTB := gTm (i := 972) (by decide +kernel) rfl
theorem lk_mRL_168 : Cond.methodLink RL 168 yL_room ∈ gTB := gTm (i := 970) (by decide +kernel) rfl
theorem lk_s_L_room : Cond.static yL_room ∈ gTB := gTm (i := 971) (by decide +kernel) rfl
theorem lk_sRL_168 : ∀ w ∈ va_wsS RL 168 yL_room (gWW yL_room cL_room 4 (some .int) [(0, 9, 12, 13)]), w ∈ gTB := gSW_in lk_mRL_168 lk_s_L_room lk_n_RL lk_c_L_room
theorem lk_mRL_171 : Cond.methodLink RL 171 yX12_room ∈ gTB := gTm (i := 1725) (by decide +kernel) rfl
theorem lk_i_X12_room : Cond.instanceMethod yX12_room ∈ gTB := gTm (i := 1726) (by decide +kernel) rfl
theorem lk_e_X12_room : Cond.selects RX12 yX12_room yX12_room ∈ gTB := gTm (i := 1727) (by decide +kernel) rfl
theorem lk_c_X12_room : Cond.code yX12_room cX12_room 2 (some .int) ∈ gTB := gTm (i := 1728) (by decide +kernel) rfl
theorem lk_vRL_171 : ∀ w ∈ wsV RL 171 RX12 yX12_room (gW yX12_room cX12_room 2 (some .int)), w ∈ gTB := gV_in lk_mRL_171 lk_i_X12_room lk_e_X12_room lk_n_RX12 lk_c_X12_room
theorem lk_c_L_notice : Cond.codeWith yL_notice cL_notice 5 (some .int) [(0, 10, 13, 13), (0, 10, 17, 15), (0, 10, 21, 17)] ∈ gTB := gTm (i := 979) (by decide +kernel) rfl
theorem lk_mRL_172 : Cond.methodLink RL 172 yL_notice ∈ gTB := gTm (i := 977) (by decide +kernel) rfl
theorem lk_s_L_notice : Cond.static yL_notice ∈ gTB := gTm (i := 978) (by decide +kernel) rfl
theorem lk_sRL_172 : ∀ w ∈ va_wsS RL 172 yL_notice (gWW yL_notice cL_notice 5 (some .int) [(0, 10, 13, 13), (0, 10, 17, 15), (0, 10, 21, 17)]), w ∈ gTB := gSW_in lk_mRL_172 lk_s_L_notice lk_n_RL lk_c_L_notice
theorem lk_mRL_174 : Cond.methodLink RL 174 yX12_notice ∈ gTB := gTm (i := 1733) (by decide +kernel) rfl
theorem lk_i_X12_notice : Cond.instanceMethod yX12_notice ∈ gTB := gTm (i := 1734) (by decide +kernel) rfl
theorem lk_e_X12_notice : Cond.selects RX12 yX12_notice yX12_notice ∈ gTB := gTm (i := 1735) (by decide +kernel) rfl
theorem lk_c_X12_notice : Cond.code yX12_notice cX12_notice 3 (some .int) ∈ gTB := gTm (i := 1736) (by decide +kernel) rfl
theorem lk_vRL_174 : ∀ w ∈ wsV RL 174 RX12 yX12_notice (gW yX12_notice cX12_notice 3 (some .int)), w ∈ gTB := gV_in lk_mRL_174 lk_i_X12_notice lk_e_X12_notice lk_n_RX12 lk_c_X12_notice
theorem lk_c_L_receive : Cond.codeWith yL_receive cL_receive 6 (some .int) [(0, 12, 15, 13), (0, 12, 19, 15), (0, 12, 23, 17)] ∈ gTB := gTm (i := 1004) (by decide +kernel) rfl
theorem lk_mRL_175 : Cond.methodLink RL 175 yL_receive ∈ gTB := gTm (i := 1002) (by decide +kernel) rfl
theorem lk_s_L_receive : Cond.static yL_receive ∈ gTB := gTm (i := 1003) (by decide +kernel) rfl
theorem lk_sRL_175 : ∀ w ∈ va_wsS RL 175 yL_receive (gWW yL_receive cL_receive 6 (some .int) [(0, 12, 15, 13), (0, 12, 19, 15), (0, 12, 23, 17)]), w ∈ gTB := gSW_in lk_mRL_175 lk_s_L_receive lk_n_RL lk_c_L_receive
theorem lk_mRL_178 : Cond.methodLink RL 178 yX12_receive ∈ gTB := gTm (i := 1740) (by decide +kernel) rfl
theorem lk_i_X12_receive : Cond.instanceMethod yX12_receive ∈ gTB := gTm (i := 1741) (by decide +kernel) rfl
theorem lk_e_X12_receive : Cond.selects RX12 yX12_receive yX12_receive ∈ gTB := gTm (i := 1742) (by decide +kernel) rfl
theorem lk_c_X12_receive : Cond.code yX12_receive cX12_receive 5 (some .int) ∈ gTB := gTm (i := 1743) (by decide +kernel) rfl
theorem lk_vRL_178 : ∀ w ∈ wsV RL 178 RX12 yX12_receive (gW yX12_receive cX12_receive 5 (some .int)), w ∈ gTB := gV_in lk_mRL_178 lk_i_X12_receive lk_e_X12_receive lk_n_RX12 lk_c_X12_receive
theorem lk_c_L_close : Cond.codeWith yL_close cL_close 4 (some .int) [(0, 9, 12, 13), (0, 9, 15, 17)] ∈ gTB := gTm (i := 1041) (by decide +kernel) rfl
theorem lk_mRL_179 : Cond.methodLink RL 179 yL_close ∈ gTB := gTm (i := 1039) (by decide +kernel) rfl
theorem lk_s_L_close : Cond.static yL_close ∈ gTB := gTm (i := 1040) (by decide +kernel) rfl
theorem lk_sRL_179 : ∀ w ∈ va_wsS RL 179 yL_close (gWW yL_close cL_close 4 (some .int) [(0, 9, 12, 13), (0, 9, 15, 17)]), w ∈ gTB := gSW_in lk_mRL_179 lk_s_L_close lk_n_RL lk_c_L_close
theorem lk_mRL_181 : Cond.methodLink RL 181 yX12_close ∈ gTB := gTm (i := 1752) (by decide +kernel) rfl
theorem lk_i_X12_close : Cond.instanceMethod yX12_close ∈ gTB := gTm (i := 1753) (by decide +kernel) rfl
theorem lk_e_X12_close : Cond.selects RX12 yX12_close yX12_close ∈ gTB := gTm (i := 1754) (by decide +kernel) rfl
theorem lk_c_X12_close : Cond.code yX12_close cX12_close 3 (some .int) ∈ gTB := gTm (i := 1755) (by decide +kernel) rfl
theorem lk_vRL_181 : ∀ w ∈ wsV RL 181 RX12 yX12_close (gW yX12_close cX12_close 3 (some .int)), w ∈ gTB := gV_in lk_mRL_181 lk_i_X12_close lk_e_X12_close lk_n_RX12 lk_c_X12_close
theorem lk_c_L_others : Cond.codeWith yL_others cL_others 4 (some .int) [(0, 9, 12, 13)] ∈ gTB := gTm (i := 1052) (by decide +kernel) rfl
theorem lk_mRL_182 : Cond.methodLink RL 182 yL_others ∈ gTB := gTm (i := 1050) (by decide +kernel) rfl
theorem lk_s_L_others : Cond.static yL_others ∈ gTB := gTm (i := 1051) (by decide +kernel) rfl
theorem lk_sRL_182 : ∀ w ∈ va_wsS RL 182 yL_others (gWW yL_others cL_others 4 (some .int) [(0, 9, 12, 13)]), w ∈ gTB := gSW_in lk_mRL_182 lk_s_L_others lk_n_RL lk_c_L_others
theorem lk_mRL_184 : Cond.methodLink RL 184 yX12_others ∈ gTB := gTm (i := 1760) (by decide +kernel) rfl
theorem lk_i_X12_others : Cond.instanceMethod yX12_others ∈ gTB := gTm (i := 1761) (by decide +kernel) rfl
theorem lk_e_X12_others : Cond.selects RX12 yX12_others yX12_others ∈ gTB := gTm (i := 1762) (by decide +kernel) rfl
theorem lk_c_X12_others : Cond.code yX12_others cX12_others 2 (some .int) ∈ gTB := gTm (i := 1763) (by decide +kernel) rfl
theorem lk_vRL_184 : ∀ w ∈ wsV RL 184 RX12 yX12_others (gW yX12_others cX12_others 2 (some .int)), w ∈ gTB := gV_in lk_mRL_184 lk_i_X12_others lk_e_X12_others lk_n_RX12 lk_c_X12_others
theorem lk_c_L_putAway : Cond.codeWith yL_putAway cL_putAway 5 (some .int) [(0, 10, 13, 13), (0, 10, 17, 15), (0, 10, 21, 17)] ∈ gTB := gTm (i := 1059) (by decide +kernel) rfl
theorem lk_mRL_185 : Cond.methodLink RL 185 yL_putAway ∈ gTB := gTm (i := 1057) (by decide +kernel) rfl
theorem lk_s_L_putAway : Cond.static yL_putAway ∈ gTB := gTm (i := 1058) (by decide +kernel) rfl
theorem lk_sRL_185 : ∀ w ∈ va_wsS RL 185 yL_putAway (gWW yL_putAway cL_putAway 5 (some .int) [(0, 10, 13, 13), (0, 10, 17, 15), (0, 10, 21, 17)]), w ∈ gTB := gSW_in lk_mRL_185 lk_s_L_putAway lk_n_RL lk_c_L_putAway
theorem lk_mRL_187 : Cond.methodLink RL 187 yX12_putAway ∈ gTB := gTm (i := 1768) (by decide +kernel) rfl
theorem lk_i_X12_putAway : Cond.instanceMethod yX12_putAway ∈ gTB := gTm (i := 1769) (by decide +kernel) rfl
theorem lk_e_X12_putAway : Cond.selects RX12 yX12_putAway yX12_putAway ∈ gTB := gTm (i := 1770) (by decide +kernel) rfl
theorem lk_c_X12_putAway : Cond.code yX12_putAway cX12_putAway 6 (some .int) ∈ gTB := gTm (i := 1771) (by decide +kernel) rfl
theorem lk_vRL_187 : ∀ w ∈ wsV RL 187 RX12 yX12_putAway (gW yX12_putAway cX12_putAway 6 (some .int)), w ∈ gTB := gV_in lk_mRL_187 lk_i_X12_putAway lk_e_X12_putAway lk_n_RX12 lk_c_X12_putAway
theorem lk_mRL_188 : Cond.methodLink RL 188 yX11_refill ∈ gTB := gTm (i := 263) (by decide +kernel) rfl
theorem lk_i_X11_refill : Cond.instanceMethod yX11_refill ∈ gTB := gTm (i := 264) (by decide +kernel) rfl
theorem lk_e_X11_refill : Cond.selects RX11 yX11_refill yX11_refill ∈ gTB := gTm (i := 265) (by decide +kernel) rfl
theorem lk_c_X11_refill : Cond.code yX11_refill cX11_refill 3 (some .int) ∈ gTB := gTm (i := 266) (by decide +kernel) rfl
theorem lk_vRL_188 : ∀ w ∈ wsV RL 188 RX11 yX11_refill (gW yX11_refill cX11_refill 3 (some .int)), w ∈ gTB := gV_in lk_mRL_188 lk_i_X11_refill lk_e_X11_refill lk_n_RX11 lk_c_X11_refill
theorem lk_mRL_191 : Cond.methodLink RL 191 yX12_refill ∈ gTB := gTm (i := 1792) (by decide +kernel) rfl
theorem lk_i_X12_refill : Cond.instanceMethod yX12_refill ∈ gTB := gTm (i := 1793) (by decide +kernel) rfl
theorem lk_e_X12_refill : Cond.selects RX12 yX12_refill yX12_refill ∈ gTB := gTm (i := 1794) (by decide +kernel) rfl
theorem lk_c_X12_refill : Cond.code yX12_refill cX12_refill 3 (some .int) ∈ gTB := gTm (i := 1795) (by decide +kernel) rfl
theorem lk_vRL_191 : ∀ w ∈ wsV RL 191 RX12 yX12_refill (gW yX12_refill cX12_refill 3 (some .int)), w ∈ gTB := gV_in lk_mRL_191 lk_i_X12_refill lk_e_X12_refill lk_n_RX12 lk_c_X12_refill
theorem lk_c_L_order : Cond.codeWith yL_order cL_order 6 (some .int) [(0, 12, 15, 15), (0, 12, 19, 17)] ∈ gTB := gTm (i := 1082) (by decide +kernel) rfl
theorem lk_mRL_192 : Cond.methodLink RL 192 yL_order ∈ gTB := gTm (i := 1080) (by decide +kernel) rfl
theorem lk_s_L_order : Cond.static yL_order ∈ gTB := gTm (i := 1081) (by decide +kernel) rfl
theorem lk_sRL_192 : ∀ w ∈ va_wsS RL 192 yL_order (gWW yL_order cL_order 6 (some .int) [(0, 12, 15, 15), (0, 12, 19, 17)]), w ∈ gTB := gSW_in lk_mRL_192 lk_s_L_order lk_n_RL lk_c_L_order
theorem lk_mRL_195 : Cond.methodLink RL 195 yX12_order ∈ gTB := gTm (i := 1807) (by decide +kernel) rfl
theorem lk_i_X12_order : Cond.instanceMethod yX12_order ∈ gTB := gTm (i := 1808) (by decide +kernel) rfl
theorem lk_e_X12_order : Cond.selects RX12 yX12_order yX12_order ∈ gTB := gTm (i := 1809) (by decide +kernel) rfl
theorem lk_c_X12_order : Cond.code yX12_order cX12_order 4 (some .int) ∈ gTB := gTm (i := 1810) (by decide +kernel) rfl
theorem lk_vRL_195 : ∀ w ∈ wsV RL 195 RX12 yX12_order (gW yX12_order cX12_order 4 (some .int)), w ∈ gTB := gV_in lk_mRL_195 lk_i_X12_order lk_e_X12_order lk_n_RX12 lk_c_X12_order
theorem lk_c_L_line : Cond.codeWith yL_line cL_line 6 (some .int) [(0, 12, 15, 13), (0, 12, 19, 15), (0, 12, 23, 17)] ∈ gTB := gTm (i := 1124) (by decide +kernel) rfl
theorem lk_mRL_196 : Cond.methodLink RL 196 yL_line ∈ gTB := gTm (i := 1122) (by decide +kernel) rfl
theorem lk_s_L_line : Cond.static yL_line ∈ gTB := gTm (i := 1123) (by decide +kernel) rfl
theorem lk_sRL_196 : ∀ w ∈ va_wsS RL 196 yL_line (gWW yL_line cL_line 6 (some .int) [(0, 12, 15, 13), (0, 12, 19, 15), (0, 12, 23, 17)]), w ∈ gTB := gSW_in lk_mRL_196 lk_s_L_line lk_n_RL lk_c_L_line
theorem lk_mRL_198 : Cond.methodLink RL 198 yX12_line ∈ gTB := gTm (i := 1811) (by decide +kernel) rfl
theorem lk_i_X12_line : Cond.instanceMethod yX12_line ∈ gTB := gTm (i := 1812) (by decide +kernel) rfl
theorem lk_e_X12_line : Cond.selects RX12 yX12_line yX12_line ∈ gTB := gTm (i := 1813) (by decide +kernel) rfl
theorem lk_c_X12_line : Cond.code yX12_line cX12_line 6 (some .int) ∈ gTB := gTm (i := 1814) (by decide +kernel) rfl
theorem lk_vRL_198 : ∀ w ∈ wsV RL 198 RX12 yX12_line (gW yX12_line cX12_line 6 (some .int)), w ∈ gTB := gV_in lk_mRL_198 lk_i_X12_line lk_e_X12_line lk_n_RX12 lk_c_X12_line
theorem lk_mRL_199 : Cond.methodLink RL 199 yX11_allocate ∈ gTB := gTm (i := 455) (by decide +kernel) rfl
theorem lk_i_X11_allocate : Cond.instanceMethod yX11_allocate ∈ gTB := gTm (i := 456) (by decide +kernel) rfl
theorem lk_e_X11_allocate : Cond.selects RX11 yX11_allocate yX11_allocate ∈ gTB := gTm (i := 457) (by decide +kernel) rfl
theorem lk_c_X11_allocate : Cond.code yX11_allocate cX11_allocate 5 (some .int) ∈ gTB := gTm (i := 458) (by decide +kernel) rfl
theorem lk_vRL_199 : ∀ w ∈ wsV RL 199 RX11 yX11_allocate (gW yX11_allocate cX11_allocate 5 (some .int)), w ∈ gTB := gV_in lk_mRL_199 lk_i_X11_allocate lk_e_X11_allocate lk_n_RX11 lk_c_X11_allocate
theorem lk_mRL_202 : Cond.methodLink RL 202 yX12_allocate ∈ gTB := gTm (i := 1819) (by decide +kernel) rfl
theorem lk_i_X12_allocate : Cond.instanceMethod yX12_allocate ∈ gTB := gTm (i := 1820) (by decide +kernel) rfl
theorem lk_e_X12_allocate : Cond.selects RX12 yX12_allocate yX12_allocate ∈ gTB := gTm (i := 1821) (by decide +kernel) rfl
theorem lk_c_X12_allocate : Cond.code yX12_allocate cX12_allocate 4 (some .int) ∈ gTB := gTm (i := 1822) (by decide +kernel) rfl
theorem lk_vRL_202 : ∀ w ∈ wsV RL 202 RX12 yX12_allocate (gW yX12_allocate cX12_allocate 4 (some .int)), w ∈ gTB := gV_in lk_mRL_202 lk_i_X12_allocate lk_e_X12_allocate lk_n_RX12 lk_c_X12_allocate
theorem lk_c_L_lacks : Cond.codeWith yL_lacks cL_lacks 5 (some .int) [(0, 10, 13, 13)] ∈ gTB := gTm (i := 1156) (by decide +kernel) rfl
theorem lk_mRL_203 : Cond.methodLink RL 203 yL_lacks ∈ gTB := gTm (i := 1154) (by decide +kernel) rfl
theorem lk_s_L_lacks : Cond.static yL_lacks ∈ gTB := gTm (i := 1155) (by decide +kernel) rfl
theorem lk_sRL_203 : ∀ w ∈ va_wsS RL 203 yL_lacks (gWW yL_lacks cL_lacks 5 (some .int) [(0, 10, 13, 13)]), w ∈ gTB := gSW_in lk_mRL_203 lk_s_L_lacks lk_n_RL lk_c_L_lacks
theorem lk_mRL_205 : Cond.methodLink RL 205 yX12_lacks ∈ gTB := gTm (i := 1835) (by decide +kernel) rfl
theorem lk_i_X12_lacks : Cond.instanceMethod yX12_lacks ∈ gTB := gTm (i := 1836) (by decide +kernel) rfl
theorem lk_e_X12_lacks : Cond.selects RX12 yX12_lacks yX12_lacks ∈ gTB := gTm (i := 1837) (by decide +kernel) rfl
theorem lk_c_X12_lacks : Cond.code yX12_lacks cX12_lacks 4 (some .int) ∈ gTB := gTm (i := 1838) (by decide +kernel) rfl
theorem lk_vRL_205 : ∀ w ∈ wsV RL 205 RX12 yX12_lacks (gW yX12_lacks cX12_lacks 4 (some .int)), w ∈ gTB := gV_in lk_mRL_205 lk_i_X12_lacks lk_e_X12_lacks lk_n_RX12 lk_c_X12_lacks
theorem lk_c_L_held : Cond.codeWith yL_held cL_held 6 (some .int) [(0, 12, 15, 13)] ∈ gTB := gTm (i := 1163) (by decide +kernel) rfl
theorem lk_mRL_206 : Cond.methodLink RL 206 yL_held ∈ gTB := gTm (i := 1161) (by decide +kernel) rfl
theorem lk_s_L_held : Cond.static yL_held ∈ gTB := gTm (i := 1162) (by decide +kernel) rfl
theorem lk_sRL_206 : ∀ w ∈ va_wsS RL 206 yL_held (gWW yL_held cL_held 6 (some .int) [(0, 12, 15, 13)]), w ∈ gTB := gSW_in lk_mRL_206 lk_s_L_held lk_n_RL lk_c_L_held
theorem lk_mRL_208 : Cond.methodLink RL 208 yX12_held ∈ gTB := gTm (i := 1839) (by decide +kernel) rfl
theorem lk_i_X12_held : Cond.instanceMethod yX12_held ∈ gTB := gTm (i := 1840) (by decide +kernel) rfl
theorem lk_e_X12_held : Cond.selects RX12 yX12_held yX12_held ∈ gTB := gTm (i := 1841) (by decide +kernel) rfl
theorem lk_c_X12_held : Cond.code yX12_held cX12_held 6 (some .int) ∈ gTB := gTm (i := 1842) (by decide +kernel) rfl
theorem lk_vRL_208 : ∀ w ∈ wsV RL 208 RX12 yX12_held (gW yX12_held cX12_held 6 (some .int)), w ∈ gTB := gV_in lk_mRL_208 lk_i_X12_held lk_e_X12_held lk_n_RX12 lk_c_X12_held
theorem lk_c_L_wave : Cond.codeWith yL_wave cL_wave 5 (some .int) [(0, 10, 13, 13), (0, 10, 17, 15), (0, 10, 21, 17)] ∈ gTB := gTm (i := 1178) (by decide +kernel) rfl
theorem lk_mRL_209 : Cond.methodLink RL 209 yL_wave ∈ gTB := gTm (i := 1176) (by decide +kernel) rfl
theorem lk_s_L_wave : Cond.static yL_wave ∈ gTB := gTm (i := 1177) (by decide +kernel) rfl
theorem lk_sRL_209 : ∀ w ∈ va_wsS RL 209 yL_wave (gWW yL_wave cL_wave 5 (some .int) [(0, 10, 13, 13), (0, 10, 17, 15), (0, 10, 21, 17)]), w ∈ gTB := gSW_in lk_mRL_209 lk_s_L_wave lk_n_RL lk_c_L_wave
theorem lk_mRL_211 : Cond.methodLink RL 211 yX12_wave ∈ gTB := gTm (i := 1843) (by decide +kernel) rfl
theorem lk_i_X12_wave : Cond.instanceMethod yX12_wave ∈ gTB := gTm (i := 1844) (by decide +kernel) rfl
theorem lk_e_X12_wave : Cond.selects RX12 yX12_wave yX12_wave ∈ gTB := gTm (i := 1845) (by decide +kernel) rfl
theorem lk_c_X12_wave : Cond.code yX12_wave cX12_wave 8 (some .int) ∈ gTB := gTm (i := 1846) (by decide +kernel) rfl
theorem lk_vRL_211 : ∀ w ∈ wsV RL 211 RX12 yX12_wave (gW yX12_wave cX12_wave 8 (some .int)), w ∈ gTB := gV_in lk_mRL_211 lk_i_X12_wave lk_e_X12_wave lk_n_RX12 lk_c_X12_wave
theorem lk_c_L_give : Cond.codeWith yL_give cL_give 5 (some .int) [(0, 10, 13, 13), (0, 10, 17, 17)] ∈ gTB := gTm (i := 1207) (by decide +kernel) rfl
theorem lk_mRL_212 : Cond.methodLink RL 212 yL_give ∈ gTB := gTm (i := 1205) (by decide +kernel) rfl
theorem lk_s_L_give : Cond.static yL_give ∈ gTB := gTm (i := 1206) (by decide +kernel) rfl
theorem lk_sRL_212 : ∀ w ∈ va_wsS RL 212 yL_give (gWW yL_give cL_give 5 (some .int) [(0, 10, 13, 13), (0, 10, 17, 17)]), w ∈ gTB := gSW_in lk_mRL_212 lk_s_L_give lk_n_RL lk_c_L_give
theorem lk_mRL_214 : Cond.methodLink RL 214 yX12_give ∈ gTB := gTm (i := 1869) (by decide +kernel) rfl
theorem lk_i_X12_give : Cond.instanceMethod yX12_give ∈ gTB := gTm (i := 1870) (by decide +kernel) rfl
theorem lk_e_X12_give : Cond.selects RX12 yX12_give yX12_give ∈ gTB := gTm (i := 1871) (by decide +kernel) rfl
theorem lk_c_X12_give : Cond.code yX12_give cX12_give 4 (some .int) ∈ gTB := gTm (i := 1872) (by decide +kernel) rfl
theorem lk_vRL_214 : ∀ w ∈ wsV RL 214 RX12 yX12_give (gW yX12_give cX12_give 4 (some .int)), w ∈ gTB := gV_in lk_mRL_214 lk_i_X12_give lk_e_X12_give lk_n_RX12 lk_c_X12_give
theorem lk_c_L_pass : Cond.codeWith yL_pass cL_pass 4 (some .int) [(0, 9, 12, 15)] ∈ gTB := gTm (i := 1225) (by decide +kernel) rfl
theorem lk_mRL_215 : Cond.methodLink RL 215 yL_pass ∈ gTB := gTm (i := 1223) (by decide +kernel) rfl
theorem lk_s_L_pass : Cond.static yL_pass ∈ gTB := gTm (i := 1224) (by decide +kernel) rfl
theorem lk_sRL_215 : ∀ w ∈ va_wsS RL 215 yL_pass (gWW yL_pass cL_pass 4 (some .int) [(0, 9, 12, 15)]), w ∈ gTB := gSW_in lk_mRL_215 lk_s_L_pass lk_n_RL lk_c_L_pass
theorem lk_mRL_217 : Cond.methodLink RL 217 yX12_pass ∈ gTB := gTm (i := 1877) (by decide +kernel) rfl
theorem lk_i_X12_pass : Cond.instanceMethod yX12_pass ∈ gTB := gTm (i := 1878) (by decide +kernel) rfl
theorem lk_e_X12_pass : Cond.selects RX12 yX12_pass yX12_pass ∈ gTB := gTm (i := 1879) (by decide +kernel) rfl
theorem lk_c_X12_pass : Cond.code yX12_pass cX12_pass 3 (some .int) ∈ gTB := gTm (i := 1880) (by decide +kernel) rfl
theorem lk_vRL_217 : ∀ w ∈ wsV RL 217 RX12 yX12_pass (gW yX12_pass cX12_pass 3 (some .int)), w ∈ gTB := gV_in lk_mRL_217 lk_i_X12_pass lk_e_X12_pass lk_n_RX12 lk_c_X12_pass
theorem lk_c_L_where : Cond.codeWith yL_where cL_where 4 (some .int) [(0, 9, 12, 13)] ∈ gTB := gTm (i := 1301) (by decide +kernel) rfl
theorem lk_mRL_218 : Cond.methodLink RL 218 yL_where ∈ gTB := gTm (i := 1299) (by decide +kernel) rfl
theorem lk_s_L_where : Cond.static yL_where ∈ gTB := gTm (i := 1300) (by decide +kernel) rfl
theorem lk_sRL_218 : ∀ w ∈ va_wsS RL 218 yL_where (gWW yL_where cL_where 4 (some .int) [(0, 9, 12, 13)]), w ∈ gTB := gSW_in lk_mRL_218 lk_s_L_where lk_n_RL lk_c_L_where
theorem lk_mRL_220 : Cond.methodLink RL 220 yX12_where ∈ gTB := gTm (i := 1929) (by decide +kernel) rfl
theorem lk_i_X12_where : Cond.instanceMethod yX12_where ∈ gTB := gTm (i := 1930) (by decide +kernel) rfl
theorem lk_e_X12_where : Cond.selects RX12 yX12_where yX12_where ∈ gTB := gTm (i := 1931) (by decide +kernel) rfl
theorem lk_c_X12_where : Cond.code yX12_where cX12_where 2 (some .int) ∈ gTB := gTm (i := 1932) (by decide +kernel) rfl
theorem lk_vRL_220 : ∀ w ∈ wsV RL 220 RX12 yX12_where (gW yX12_where cX12_where 2 (some .int)), w ∈ gTB := gV_in lk_mRL_220 lk_i_X12_where lk_e_X12_where lk_n_RX12 lk_c_X12_where
theorem lk_c_L_doing : Cond.codeWith yL_doing cL_doing 4 (some .int) [(0, 9, 12, 13)] ∈ gTB := gTm (i := 1308) (by decide +kernel) rfl
theorem lk_mRL_221 : Cond.methodLink RL 221 yL_doing ∈ gTB := gTm (i := 1306) (by decide +kernel) rfl
theorem lk_s_L_doing : Cond.static yL_doing ∈ gTB := gTm (i := 1307) (by decide +kernel) rfl
theorem lk_sRL_221 : ∀ w ∈ va_wsS RL 221 yL_doing (gWW yL_doing cL_doing 4 (some .int) [(0, 9, 12, 13)]), w ∈ gTB := gSW_in lk_mRL_221 lk_s_L_doing lk_n_RL lk_c_L_doing
theorem lk_mRL_223 : Cond.methodLink RL 223 yX12_doing ∈ gTB := gTm (i := 1933) (by decide +kernel) rfl
theorem lk_i_X12_doing : Cond.instanceMethod yX12_doing ∈ gTB := gTm (i := 1934) (by decide +kernel) rfl
theorem lk_e_X12_doing : Cond.selects RX12 yX12_doing yX12_doing ∈ gTB := gTm (i := 1935) (by decide +kernel) rfl
theorem lk_c_X12_doing : Cond.code yX12_doing cX12_doing 2 (some .int) ∈ gTB := gTm (i := 1936) (by decide +kernel) rfl
theorem lk_vRL_223 : ∀ w ∈ wsV RL 223 RX12 yX12_doing (gW yX12_doing cX12_doing 2 (some .int)), w ∈ gTB := gV_in lk_mRL_223 lk_i_X12_doing lk_e_X12_doing lk_n_RX12 lk_c_X12_doing
theorem lk_mRL_224 : Cond.methodLink RL 224 yX11_tasks ∈ gTB := gTm (i := 489) (by decide +kernel) rfl
theorem lk_i_X11_tasks : Cond.instanceMethod yX11_tasks ∈ gTB := gTm (i := 490) (by decide +kernel) rfl
theorem lk_e_X11_tasks : Cond.selects RX11 yX11_tasks yX11_tasks ∈ gTB := gTm (i := 491) (by decide +kernel) rfl
theorem lk_c_X11_tasks : Cond.code yX11_tasks cX11_tasks 1 (some .int) ∈ gTB := gTm (i := 492) (by decide +kernel) rfl
theorem lk_vRL_224 : ∀ w ∈ wsV RL 224 RX11 yX11_tasks (gW yX11_tasks cX11_tasks 1 (some .int)), w ∈ gTB := gV_in lk_mRL_224 lk_i_X11_tasks lk_e_X11_tasks lk_n_RX11 lk_c_X11_tasks
theorem lk_mRL_227 : Cond.methodLink RL 227 yX12_tasks ∈ gTB := gTm (i := 1937) (by decide +kernel) rfl
theorem lk_i_X12_tasks : Cond.instanceMethod yX12_tasks ∈ gTB := gTm (i := 1938) (by decide +kernel) rfl
theorem lk_e_X12_tasks : Cond.selects RX12 yX12_tasks yX12_tasks ∈ gTB := gTm (i := 1939) (by decide +kernel) rfl
theorem lk_c_X12_tasks : Cond.code yX12_tasks cX12_tasks 1 (some .int) ∈ gTB := gTm (i := 1940) (by decide +kernel) rfl
theorem lk_vRL_227 : ∀ w ∈ wsV RL 227 RX12 yX12_tasks (gW yX12_tasks cX12_tasks 1 (some .int)), w ∈ gTB := gV_in lk_mRL_227 lk_i_X12_tasks lk_e_X12_tasks lk_n_RX12 lk_c_X12_tasks
theorem lk_c_L_taskAt : Cond.codeWith yL_taskAt cL_taskAt 4 (some .int) [(0, 9, 12, 13)] ∈ gTB := gTm (i := 1315) (by decide +kernel) rfl
theorem lk_mRL_228 : Cond.methodLink RL 228 yL_taskAt ∈ gTB := gTm (i := 1313) (by decide +kernel) rfl
theorem lk_s_L_taskAt : Cond.static yL_taskAt ∈ gTB := gTm (i := 1314) (by decide +kernel) rfl
theorem lk_sRL_228 : ∀ w ∈ va_wsS RL 228 yL_taskAt (gWW yL_taskAt cL_taskAt 4 (some .int) [(0, 9, 12, 13)]), w ∈ gTB := gSW_in lk_mRL_228 lk_s_L_taskAt lk_n_RL lk_c_L_taskAt
theorem lk_mRL_230 : Cond.methodLink RL 230 yX12_taskAt ∈ gTB := gTm (i := 1941) (by decide +kernel) rfl
theorem lk_i_X12_taskAt : Cond.instanceMethod yX12_taskAt ∈ gTB := gTm (i := 1942) (by decide +kernel) rfl
theorem lk_e_X12_taskAt : Cond.selects RX12 yX12_taskAt yX12_taskAt ∈ gTB := gTm (i := 1943) (by decide +kernel) rfl
theorem lk_c_X12_taskAt : Cond.code yX12_taskAt cX12_taskAt 2 (some .int) ∈ gTB := gTm (i := 1944) (by decide +kernel) rfl
theorem lk_vRL_230 : ∀ w ∈ wsV RL 230 RX12 yX12_taskAt (gW yX12_taskAt cX12_taskAt 2 (some .int)), w ∈ gTB := gV_in lk_mRL_230 lk_i_X12_taskAt lk_e_X12_taskAt lk_n_RX12 lk_c_X12_taskAt
theorem lk_mRL_231 : Cond.methodLink RL 231 yX11_standstills ∈ gTB := gTm (i := 493) (by decide +kernel) rfl
theorem lk_i_X11_standstills : Cond.instanceMethod yX11_standstills ∈ gTB := gTm (i := 494) (by decide +kernel) rfl
theorem lk_e_X11_standstills : Cond.selects RX11 yX11_standstills yX11_standstills ∈ gTB := gTm (i := 495) (by decide +kernel) rfl
theorem lk_c_X11_standstills : Cond.code yX11_standstills cX11_standstills 1 (some .int) ∈ gTB := gTm (i := 496) (by decide +kernel) rfl
theorem lk_vRL_231 : ∀ w ∈ wsV RL 231 RX11 yX11_standstills (gW yX11_standstills cX11_standstills 1 (some .int)), w ∈ gTB := gV_in lk_mRL_231 lk_i_X11_standstills lk_e_X11_standstills lk_n_RX11 lk_c_X11_standstills
theorem lk_mRL_234 : Cond.methodLink RL 234 yX12_standstills ∈ gTB := gTm (i := 1945) (by decide +kernel) rfl
theorem lk_i_X12_standstills : Cond.instanceMethod yX12_standstills ∈ gTB := gTm (i := 1946) (by decide +kernel) rfl
theorem lk_e_X12_standstills : Cond.selects RX12 yX12_standstills yX12_standstills ∈ gTB := gTm (i := 1947) (by decide +kernel) rfl
theorem lk_c_X12_standstills : Cond.code yX12_standstills cX12_standstills 1 (some .int) ∈ gTB := gTm (i := 1948) (by decide +kernel) rfl
theorem lk_vRL_234 : ∀ w ∈ wsV RL 234 RX12 yX12_standstills (gW yX12_standstills cX12_standstills 1 (some .int)), w ∈ gTB := gV_in lk_mRL_234 lk_i_X12_standstills lk_e_X12_standstills lk_n_RX12 lk_c_X12_standstills
theorem lk_c_L_lose : Cond.codeWith yL_lose cL_lose 6 (some .int) [(0, 12, 15, 13), (0, 12, 19, 15)] ∈ gTB := gTm (i := 1322) (by decide +kernel) rfl
theorem lk_mRL_235 : Cond.methodLink RL 235 yL_lose ∈ gTB := gTm (i := 1320) (by decide +kernel) rfl
theorem lk_s_L_lose : Cond.static yL_lose ∈ gTB := gTm (i := 1321) (by decide +kernel) rfl
theorem lk_sRL_235 : ∀ w ∈ va_wsS RL 235 yL_lose (gWW yL_lose cL_lose 6 (some .int) [(0, 12, 15, 13), (0, 12, 19, 15)]), w ∈ gTB := gSW_in lk_mRL_235 lk_s_L_lose lk_n_RL lk_c_L_lose
theorem lk_mRL_237 : Cond.methodLink RL 237 yX12_lose ∈ gTB := gTm (i := 1949) (by decide +kernel) rfl
theorem lk_i_X12_lose : Cond.instanceMethod yX12_lose ∈ gTB := gTm (i := 1950) (by decide +kernel) rfl
theorem lk_e_X12_lose : Cond.selects RX12 yX12_lose yX12_lose ∈ gTB := gTm (i := 1951) (by decide +kernel) rfl
theorem lk_c_X12_lose : Cond.code yX12_lose cX12_lose 5 (some .int) ∈ gTB := gTm (i := 1952) (by decide +kernel) rfl
theorem lk_vRL_237 : ∀ w ∈ wsV RL 237 RX12 yX12_lose (gW yX12_lose cX12_lose 5 (some .int)), w ∈ gTB := gV_in lk_mRL_237 lk_i_X12_lose lk_e_X12_lose lk_n_RX12 lk_c_X12_lose
theorem lk_c_L_count : Cond.codeWith yL_count cL_count 5 (some .int) [(0, 10, 13, 13)] ∈ gTB := gTm (i := 1329) (by decide +kernel) rfl
theorem lk_mRL_238 : Cond.methodLink RL 238 yL_count ∈ gTB := gTm (i := 1327) (by decide +kernel) rfl
theorem lk_s_L_count : Cond.static yL_count ∈ gTB := gTm (i := 1328) (by decide +kernel) rfl
theorem lk_sRL_238 : ∀ w ∈ va_wsS RL 238 yL_count (gWW yL_count cL_count 5 (some .int) [(0, 10, 13, 13)]), w ∈ gTB := gSW_in lk_mRL_238 lk_s_L_count lk_n_RL lk_c_L_count
theorem lk_mRL_240 : Cond.methodLink RL 240 yX12_count ∈ gTB := gTm (i := 1957) (by decide +kernel) rfl
theorem lk_i_X12_count : Cond.instanceMethod yX12_count ∈ gTB := gTm (i := 1958) (by decide +kernel) rfl
theorem lk_e_X12_count : Cond.selects RX12 yX12_count yX12_count ∈ gTB := gTm (i := 1959) (by decide +kernel) rfl
theorem lk_c_X12_count : Cond.code yX12_count cX12_count 6 (some .int) ∈ gTB := gTm (i := 1960) (by decide +kernel) rfl
theorem lk_vRL_240 : ∀ w ∈ wsV RL 240 RX12 yX12_count (gW yX12_count cX12_count 6 (some .int)), w ∈ gTB := gV_in lk_mRL_240 lk_i_X12_count lk_e_X12_count lk_n_RX12 lk_c_X12_count
theorem lk_c_L_find : Cond.codeWith yL_find cL_find 6 (some .int) [(0, 12, 15, 13), (0, 12, 19, 15)] ∈ gTB := gTm (i := 1344) (by decide +kernel) rfl
theorem lk_mRL_241 : Cond.methodLink RL 241 yL_find ∈ gTB := gTm (i := 1342) (by decide +kernel) rfl
theorem lk_s_L_find : Cond.static yL_find ∈ gTB := gTm (i := 1343) (by decide +kernel) rfl
theorem lk_sRL_241 : ∀ w ∈ va_wsS RL 241 yL_find (gWW yL_find cL_find 6 (some .int) [(0, 12, 15, 13), (0, 12, 19, 15)]), w ∈ gTB := gSW_in lk_mRL_241 lk_s_L_find lk_n_RL lk_c_L_find
theorem lk_mRL_243 : Cond.methodLink RL 243 yX12_find ∈ gTB := gTm (i := 1953) (by decide +kernel) rfl
theorem lk_i_X12_find : Cond.instanceMethod yX12_find ∈ gTB := gTm (i := 1954) (by decide +kernel) rfl
theorem lk_e_X12_find : Cond.selects RX12 yX12_find yX12_find ∈ gTB := gTm (i := 1955) (by decide +kernel) rfl
theorem lk_c_X12_find : Cond.code yX12_find cX12_find 5 (some .int) ∈ gTB := gTm (i := 1956) (by decide +kernel) rfl
theorem lk_vRL_243 : ∀ w ∈ wsV RL 243 RX12 yX12_find (gW yX12_find cX12_find 5 (some .int)), w ∈ gTB := gV_in lk_mRL_243 lk_i_X12_find lk_e_X12_find lk_n_RX12 lk_c_X12_find
theorem lk_c_L_boxes : Cond.codeWith yL_boxes cL_boxes 4 (some .int) [(0, 9, 12, 13)] ∈ gTB := gTm (i := 1351) (by decide +kernel) rfl
theorem lk_mRL_244 : Cond.methodLink RL 244 yL_boxes ∈ gTB := gTm (i := 1349) (by decide +kernel) rfl
theorem lk_s_L_boxes : Cond.static yL_boxes ∈ gTB := gTm (i := 1350) (by decide +kernel) rfl
theorem lk_sRL_244 : ∀ w ∈ va_wsS RL 244 yL_boxes (gWW yL_boxes cL_boxes 4 (some .int) [(0, 9, 12, 13)]), w ∈ gTB := gSW_in lk_mRL_244 lk_s_L_boxes lk_n_RL lk_c_L_boxes
theorem lk_mRL_246 : Cond.methodLink RL 246 yX12_boxes ∈ gTB := gTm (i := 1961) (by decide +kernel) rfl
theorem lk_i_X12_boxes : Cond.instanceMethod yX12_boxes ∈ gTB := gTm (i := 1962) (by decide +kernel) rfl
theorem lk_e_X12_boxes : Cond.selects RX12 yX12_boxes yX12_boxes ∈ gTB := gTm (i := 1963) (by decide +kernel) rfl
theorem lk_c_X12_boxes : Cond.code yX12_boxes cX12_boxes 2 (some .int) ∈ gTB := gTm (i := 1964) (by decide +kernel) rfl
theorem lk_vRL_246 : ∀ w ∈ wsV RL 246 RX12 yX12_boxes (gW yX12_boxes cX12_boxes 2 (some .int)), w ∈ gTB := gV_in lk_mRL_246 lk_i_X12_boxes lk_e_X12_boxes lk_n_RX12 lk_c_X12_boxes
theorem lk_c_L_boxAt : Cond.codeWith yL_boxAt cL_boxAt 5 (some .int) [(0, 10, 13, 13)] ∈ gTB := gTm (i := 1383) (by decide +kernel) rfl
theorem lk_mRL_247 : Cond.methodLink RL 247 yL_boxAt ∈ gTB := gTm (i := 1381) (by decide +kernel) rfl
theorem lk_s_L_boxAt : Cond.static yL_boxAt ∈ gTB := gTm (i := 1382) (by decide +kernel) rfl
theorem lk_sRL_247 : ∀ w ∈ va_wsS RL 247 yL_boxAt (gWW yL_boxAt cL_boxAt 5 (some .int) [(0, 10, 13, 13)]), w ∈ gTB := gSW_in lk_mRL_247 lk_s_L_boxAt lk_n_RL lk_c_L_boxAt
theorem lk_mRL_249 : Cond.methodLink RL 249 yX12_boxAt ∈ gTB := gTm (i := 1977) (by decide +kernel) rfl
theorem lk_i_X12_boxAt : Cond.instanceMethod yX12_boxAt ∈ gTB := gTm (i := 1978) (by decide +kernel) rfl
theorem lk_e_X12_boxAt : Cond.selects RX12 yX12_boxAt yX12_boxAt ∈ gTB := gTm (i := 1979) (by decide +kernel) rfl
theorem lk_c_X12_boxAt : Cond.code yX12_boxAt cX12_boxAt 4 (some .int) ∈ gTB := gTm (i := 1980) (by decide +kernel) rfl
theorem lk_vRL_249 : ∀ w ∈ wsV RL 249 RX12 yX12_boxAt (gW yX12_boxAt cX12_boxAt 4 (some .int)), w ∈ gTB := gV_in lk_mRL_249 lk_i_X12_boxAt lk_e_X12_boxAt lk_n_RX12 lk_c_X12_boxAt
theorem lk_c_L_send : Cond.codeWith yL_send cL_send 4 (some .int) [(0, 9, 12, 13), (0, 9, 15, 17)] ∈ gTB := gTm (i := 1390) (by decide +kernel) rfl
theorem lk_mRL_250 : Cond.methodLink RL 250 yL_send ∈ gTB := gTm (i := 1388) (by decide +kernel) rfl
theorem lk_s_L_send : Cond.static yL_send ∈ gTB := gTm (i := 1389) (by decide +kernel) rfl
theorem lk_sRL_250 : ∀ w ∈ va_wsS RL 250 yL_send (gWW yL_send cL_send 4 (some .int) [(0, 9, 12, 13), (0, 9, 15, 17)]), w ∈ gTB := gSW_in lk_mRL_250 lk_s_L_send lk_n_RL lk_c_L_send
theorem lk_mRL_252 : Cond.methodLink RL 252 yX12_send ∈ gTB := gTm (i := 1981) (by decide +kernel) rfl
theorem lk_i_X12_send : Cond.instanceMethod yX12_send ∈ gTB := gTm (i := 1982) (by decide +kernel) rfl
theorem lk_e_X12_send : Cond.selects RX12 yX12_send yX12_send ∈ gTB := gTm (i := 1983) (by decide +kernel) rfl
theorem lk_c_X12_send : Cond.code yX12_send cX12_send 6 (some .int) ∈ gTB := gTm (i := 1984) (by decide +kernel) rfl
theorem lk_vRL_252 : ∀ w ∈ wsV RL 252 RX12 yX12_send (gW yX12_send cX12_send 6 (some .int)), w ∈ gTB := gV_in lk_mRL_252 lk_i_X12_send lk_e_X12_send lk_n_RX12 lk_c_X12_send
theorem lk_c_L_sent : Cond.codeWith yL_sent cL_sent 5 (some .int) [(0, 10, 13, 13)] ∈ gTB := gTm (i := 1405) (by decide +kernel) rfl
theorem lk_mRL_253 : Cond.methodLink RL 253 yL_sent ∈ gTB := gTm (i := 1403) (by decide +kernel) rfl
theorem lk_s_L_sent : Cond.static yL_sent ∈ gTB := gTm (i := 1404) (by decide +kernel) rfl
theorem lk_sRL_253 : ∀ w ∈ va_wsS RL 253 yL_sent (gWW yL_sent cL_sent 5 (some .int) [(0, 10, 13, 13)]), w ∈ gTB := gSW_in lk_mRL_253 lk_s_L_sent lk_n_RL lk_c_L_sent
theorem lk_mRL_255 : Cond.methodLink RL 255 yX12_sent ∈ gTB := gTm (i := 1985) (by decide +kernel) rfl
theorem lk_i_X12_sent : Cond.instanceMethod yX12_sent ∈ gTB := gTm (i := 1986) (by decide +kernel) rfl
theorem lk_e_X12_sent : Cond.selects RX12 yX12_sent yX12_sent ∈ gTB := gTm (i := 1987) (by decide +kernel) rfl
theorem lk_c_X12_sent : Cond.code yX12_sent cX12_sent 3 (some .int) ∈ gTB := gTm (i := 1988) (by decide +kernel) rfl
theorem lk_vRL_255 : ∀ w ∈ wsV RL 255 RX12 yX12_sent (gW yX12_sent cX12_sent 3 (some .int)), w ∈ gTB := gV_in lk_mRL_255 lk_i_X12_sent lk_e_X12_sent lk_n_RX12 lk_c_X12_sent
theorem lk_c_L_received : Cond.codeWith yL_received cL_received 5 (some .int) [(0, 10, 13, 13)] ∈ gTB := gTm (i := 1412) (by decide +kernel) rfl
theorem lk_mRL_256 : Cond.methodLink RL 256 yL_received ∈ gTB := gTm (i := 1410) (by decide +kernel) rfl
theorem lk_s_L_received : Cond.static yL_received ∈ gTB := gTm (i := 1411) (by decide +kernel) rfl
theorem lk_sRL_256 : ∀ w ∈ va_wsS RL 256 yL_received (gWW yL_received cL_received 5 (some .int) [(0, 10, 13, 13)]), w ∈ gTB := gSW_in lk_mRL_256 lk_s_L_received lk_n_RL lk_c_L_received
theorem lk_mRL_258 : Cond.methodLink RL 258 yX12_received ∈ gTB := gTm (i := 1764) (by decide +kernel) rfl
theorem lk_i_X12_received : Cond.instanceMethod yX12_received ∈ gTB := gTm (i := 1765) (by decide +kernel) rfl
theorem lk_e_X12_received : Cond.selects RX12 yX12_received yX12_received ∈ gTB := gTm (i := 1766) (by decide +kernel) rfl
theorem lk_c_X12_received : Cond.code yX12_received cX12_received 3 (some .int) ∈ gTB := gTm (i := 1767) (by decide +kernel) rfl
theorem lk_vRL_258 : ∀ w ∈ wsV RL 258 RX12 yX12_received (gW yX12_received cX12_received 3 (some .int)), w ∈ gTB := gV_in lk_mRL_258 lk_i_X12_received lk_e_X12_received lk_n_RX12 lk_c_X12_received
theorem lk_c_L_comeBack : Cond.codeWith yL_comeBack cL_comeBack 6 (some .int) [(0, 12, 15, 13), (0, 12, 19, 15), (0, 12, 23, 17)] ∈ gTB := gTm (i := 1419) (by decide +kernel) rfl
theorem lk_mRL_259 : Cond.methodLink RL 259 yL_comeBack ∈ gTB := gTm (i := 1417) (by decide +kernel) rfl
theorem lk_s_L_comeBack : Cond.static yL_comeBack ∈ gTB := gTm (i := 1418) (by decide +kernel) rfl
theorem lk_sRL_259 : ∀ w ∈ va_wsS RL 259 yL_comeBack (gWW yL_comeBack cL_comeBack 6 (some .int) [(0, 12, 15, 13), (0, 12, 19, 15), (0, 12, 23, 17)]), w ∈ gTB := gSW_in lk_mRL_259 lk_s_L_comeBack lk_n_RL lk_c_L_comeBack
theorem lk_mRL_261 : Cond.methodLink RL 261 yX12_comeBack ∈ gTB := gTm (i := 1989) (by decide +kernel) rfl
theorem lk_i_X12_comeBack : Cond.instanceMethod yX12_comeBack ∈ gTB := gTm (i := 1990) (by decide +kernel) rfl
theorem lk_e_X12_comeBack : Cond.selects RX12 yX12_comeBack yX12_comeBack ∈ gTB := gTm (i := 1991) (by decide +kernel) rfl
theorem lk_c_X12_comeBack : Cond.code yX12_comeBack cX12_comeBack 5 (some .int) ∈ gTB := gTm (i := 1992) (by decide +kernel) rfl
theorem lk_vRL_261 : ∀ w ∈ wsV RL 261 RX12 yX12_comeBack (gW yX12_comeBack cX12_comeBack 5 (some .int)), w ∈ gTB := gV_in lk_mRL_261 lk_i_X12_comeBack lk_e_X12_comeBack lk_n_RX12 lk_c_X12_comeBack
theorem lk_c_L_judge : Cond.codeWith yL_judge cL_judge 6 (some .int) [(0, 12, 15, 13), (0, 12, 19, 15), (0, 12, 23, 17)] ∈ gTB := gTm (i := 1426) (by decide +kernel) rfl
theorem lk_mRL_262 : Cond.methodLink RL 262 yL_judge ∈ gTB := gTm (i := 1424) (by decide +kernel) rfl
theorem lk_s_L_judge : Cond.static yL_judge ∈ gTB := gTm (i := 1425) (by decide +kernel) rfl
theorem lk_sRL_262 : ∀ w ∈ va_wsS RL 262 yL_judge (gWW yL_judge cL_judge 6 (some .int) [(0, 12, 15, 13), (0, 12, 19, 15), (0, 12, 23, 17)]), w ∈ gTB := gSW_in lk_mRL_262 lk_s_L_judge lk_n_RL lk_c_L_judge
theorem lk_mRL_264 : Cond.methodLink RL 264 yX12_judge ∈ gTB := gTm (i := 1993) (by decide +kernel) rfl
theorem lk_i_X12_judge : Cond.instanceMethod yX12_judge ∈ gTB := gTm (i := 1994) (by decide +kernel) rfl
theorem lk_e_X12_judge : Cond.selects RX12 yX12_judge yX12_judge ∈ gTB := gTm (i := 1995) (by decide +kernel) rfl
theorem lk_c_X12_judge : Cond.code yX12_judge cX12_judge 5 (some .int) ∈ gTB := gTm (i := 1996) (by decide +kernel) rfl
theorem lk_vRL_264 : ∀ w ∈ wsV RL 264 RX12 yX12_judge (gW yX12_judge cX12_judge 5 (some .int)), w ∈ gTB := gV_in lk_mRL_264 lk_i_X12_judge lk_e_X12_judge lk_n_RX12 lk_c_X12_judge
theorem lk_c_L_recall : Cond.codeWith yL_recall cL_recall 4 (some .int) [(0, 9, 12, 13), (0, 9, 15, 17)] ∈ gTB := gTm (i := 1433) (by decide +kernel) rfl
theorem lk_mRL_265 : Cond.methodLink RL 265 yL_recall ∈ gTB := gTm (i := 1431) (by decide +kernel) rfl
theorem lk_s_L_recall : Cond.static yL_recall ∈ gTB := gTm (i := 1432) (by decide +kernel) rfl
theorem lk_sRL_265 : ∀ w ∈ va_wsS RL 265 yL_recall (gWW yL_recall cL_recall 4 (some .int) [(0, 9, 12, 13), (0, 9, 15, 17)]), w ∈ gTB := gSW_in lk_mRL_265 lk_s_L_recall lk_n_RL lk_c_L_recall
theorem lk_mRL_267 : Cond.methodLink RL 267 yX12_recall ∈ gTB := gTm (i := 1997) (by decide +kernel) rfl
theorem lk_i_X12_recall : Cond.instanceMethod yX12_recall ∈ gTB := gTm (i := 1998) (by decide +kernel) rfl
theorem lk_e_X12_recall : Cond.selects RX12 yX12_recall yX12_recall ∈ gTB := gTm (i := 1999) (by decide +kernel) rfl
theorem lk_c_X12_recall : Cond.code yX12_recall cX12_recall 5 (some .int) ∈ gTB := gTm (i := 2000) (by decide +kernel) rfl
theorem lk_vRL_267 : ∀ w ∈ wsV RL 267 RX12 yX12_recall (gW yX12_recall cX12_recall 5 (some .int)), w ∈ gTB := gV_in lk_mRL_267 lk_i_X12_recall lk_e_X12_recall lk_n_RX12 lk_c_X12_recall
theorem lk_mRL_268 : Cond.methodLink RL 268 yX11_bill ∈ gTB := gTm (i := 497) (by decide +kernel) rfl
theorem lk_i_X11_bill : Cond.instanceMethod yX11_bill ∈ gTB := gTm (i := 498) (by decide +kernel) rfl
theorem lk_e_X11_bill : Cond.selects RX11 yX11_bill yX11_bill ∈ gTB := gTm (i := 499) (by decide +kernel) rfl
theorem lk_c_X11_bill : Cond.code yX11_bill cX11_bill 1 (some .int) ∈ gTB := gTm (i := 500) (by decide +kernel) rfl
theorem lk_vRL_268 : ∀ w ∈ wsV RL 268 RX11 yX11_bill (gW yX11_bill cX11_bill 1 (some .int)), w ∈ gTB := gV_in lk_mRL_268 lk_i_X11_bill lk_e_X11_bill lk_n_RX11 lk_c_X11_bill
theorem lk_mRL_271 : Cond.methodLink RL 271 yX12_bill ∈ gTB := gTm (i := 2001) (by decide +kernel) rfl
theorem lk_i_X12_bill : Cond.instanceMethod yX12_bill ∈ gTB := gTm (i := 2002) (by decide +kernel) rfl
theorem lk_e_X12_bill : Cond.selects RX12 yX12_bill yX12_bill ∈ gTB := gTm (i := 2003) (by decide +kernel) rfl
theorem lk_c_X12_bill : Cond.code yX12_bill cX12_bill 1 (some .int) ∈ gTB := gTm (i := 2004) (by decide +kernel) rfl
theorem lk_vRL_271 : ∀ w ∈ wsV RL 271 RX12 yX12_bill (gW yX12_bill cX12_bill 1 (some .int)), w ∈ gTB := gV_in lk_mRL_271 lk_i_X12_bill lk_e_X12_bill lk_n_RX12 lk_c_X12_bill
set_option maxRecDepth 100000 in
set_option maxHeartbeats 4000000 in
theorem t_L_law_216 {p : Program} {l : Launch} {e : Env} {s : State} {m : MethodId} {below : List Frame} {meth : Method} {c : Code} {G : GX} {σ0 : St} {b L : Nat} {xs : Nat → Int32} (X : VC p l room_1 s m #[Value.ref b] meth c G 11 601024 7293034 7 RL code) (hr : meth.sig.returnType = ret) (htr : l.stackTraces = false) (hX : va_X b L xs s s.heap ∧ b < s.heap.size ∧ ¬ GA G b) (hsz : ∀ q, GA G q → s.heap.size ≤ q) {K23 : Nat → Nat → Nat → Int32 → St → Nat → Nat → Prop} (hK23 : ∀ (a1 : Nat) (a2 : Nat) (a3 : Nat) (x4 : Int32) (σ : St) (k n : Nat), K23 a1 a2 a3 x4 σ k n → V p l e room_1 s m #[Value.ref b] below meth c (lw_Z below #[Value.ref b] s) G 0 σ0 601024 7293034 7 σ k n [(some a1, 12), (some a2, 13), (some a3, 23)] 23 [(0, va_rf (some b)), (1, va_rf (some a1)), (2, va_rf (some a2)), (3, va_rf (some a3)), (4, .int x4)] []) : ∀ (a1 : Nat) (a2 : Nat) (a3 : Nat) (x4 : Int32) (σ : St) (k n : Nat), w_L_law_216 L xs K23 a1 a2 a3 x4 σ k n → V p l e room_1 s m #[Value.ref b] below meth c (lw_Z below #[Value.ref b] s) G 0 σ0 601024 7293034 7 σ k n [(some a1, 12), (some a2, 13), (some a3, 23)] 216 [(0, va_rf (some b)), (1, va_rf (some a1)), (2, va_rf (some a2)), (3, va_rf (some a3)), (4, .int x4)] [] := by
  intro a1 a2 a3 x4 σ k n hw
  unfold w_L_law_216 at hw
  refine v_aload_n X 1 rfl (gD D_L_law_1 4 rfl) rfl ?_
  refine v_aload_n X 0 rfl (gD D_L_law_1 5 rfl) rfl ?_
  refine v_iload X 4 rfl (gD D_L_law_1 6 rfl) ?_
  refine v_iconst X 1 (gD D_L_law_1 7 rfl) (by decide) ?_
  refine v_iadd X (gD D_L_law_1 8 rfl) ?_
  obtain ⟨h89, hw⟩ := hw
  refine v_sld X hX h89 (gD D_L_law_1 9 rfl) ?_
  refine v_aload_n X 0 rfl (gD D_L_law_1 10 rfl) rfl ?_
  refine v_iload X 4 rfl (gD D_L_law_1 11 rfl) ?_
  refine v_iconst X 2 (gD D_L_law_1 12 rfl) (by decide) ?_
  refine v_iadd X (gD D_L_law_1 13 rfl) ?_
  obtain ⟨h90, hw⟩ := hw
  refine v_sld X hX h90 (gD D_L_law_1 14 rfl) ?_
  refine v_aload_n X 0 rfl (gD D_L_law_1 15 rfl) rfl ?_
  refine v_iload X 4 rfl (gD D_L_law_1 16 rfl) ?_
  refine v_iconst X 3 (gD D_L_law_1 17 rfl) (by decide) ?_
  refine v_iadd X (gD D_L_law_1 18 rfl) ?_
  obtain ⟨h91, hw⟩ := hw
  refine v_sld X hX h91 (gD D_L_law_1 19 rfl) ?_
  obtain ⟨k94, n95, k96, n97, h98, h99, hw⟩ := hw
  refine v_callW X (As := [va_rf (some a1), .int (xs (x4 + 1).toNatClampNeg), .int (xs (x4 + 2).toNatClampNeg), .int (xs (x4 + 3).toNatClampNeg)]) (rest := []) (nA := 4) k94 n95 k96 n97 (fun ht => c_L_slot htr (ht.sub [0] rfl) hw) (Or.inr rfl) lk_sRL_133 (by decide +kernel) rfl rfl (by decide) (by decide) (by decide) h98 h99 (gD D_L_law_1 20 rfl) (fun x92 s93 hq hx hf => ?_)
  replace hw := hq hx hf
  clear hq hx hf
  refine v_istore X [(5, .int x92), (0, va_rf (some b)), (1, va_rf (some a1)), (2, va_rf (some a2)), (3, va_rf (some a3)), (4, .int x4)] (gD D_L_law_2 0 rfl) (by decide) rfl ?_
  refine v_aload_n X 3 rfl (gD D_L_law_2 1 rfl) rfl ?_
  refine v_aload_n X 1 rfl (gD D_L_law_2 2 rfl) rfl ?_
  refine v_iload X 5 rfl (gD D_L_law_2 3 rfl) ?_
  refine v_iconst X 1 (gD D_L_law_2 4 rfl) (by decide) ?_
  refine v_iadd X (gD D_L_law_2 5 rfl) ?_
  obtain ⟨h100, hw⟩ := hw
  refine v_sld X hX h100 (gD D_L_law_2 6 rfl) ?_
  refine v_aload_n X 1 rfl (gD D_L_law_2 7 rfl) rfl ?_
  refine v_iload X 5 rfl (gD D_L_law_2 8 rfl) ?_
  refine v_iconst X 2 (gD D_L_law_2 9 rfl) (by decide) ?_
  refine v_iadd X (gD D_L_law_2 10 rfl) ?_
  obtain ⟨h101, hw⟩ := hw
  refine v_sld X hX h101 (gD D_L_law_2 11 rfl) ?_
  refine v_aload_n X 1 rfl (gD D_L_law_2 12 rfl) rfl ?_
  refine v_iload X 5 rfl (gD D_L_law_2 13 rfl) ?_
  refine v_iconst X 3 (gD D_L_law_2 14 rfl) (by decide) ?_
  refine v_iadd X (gD D_L_law_2 15 rfl) ?_
  obtain ⟨h102, hw⟩ := hw
  refine v_sld X hX h102 (gD D_L_law_2 16 rfl) ?_
  refine v_callVv X (As := [.int (xs (x4 + 1).toNatClampNeg), .int (xs (x4 + 2).toNatClampNeg), .int (xs (x4 + 3).toNatClampNeg)]) (rest := []) (nA := 3) 0 0 k96 n97 (fun ht => c_X12_slot htr (ht.sub [1] rfl) hw) (Or.inr rfl) 1 (κ := 13) rfl (by decide) (rfl : gCl[12]? = some (RX12, TX12, 65)) lk_vRL_138 (by decide +kernel) rfl rfl (by decide) (by decide) (by decide) rfl rfl (gD D_L_law_2 17 rfl) (fun s104 hq hx hf => ?_)
  replace hw := hq hx hf
  clear hq hx hf
  refine v_aload_n X 3 rfl (gD D_L_law_2 18 rfl) rfl ?_
  refine v_callVi X (As := []) (rest := []) (nA := 0) 0 0 k96 n97 (fun ht => c_X12_thrown htr (ht.sub [1] rfl) hw) (Or.inr rfl) 1 (κ := 13) rfl (by decide) (rfl : gCl[12]? = some (RX12, TX12, 65)) lk_vRL_139 (by decide +kernel) rfl rfl (by decide) (by decide) (by decide) rfl rfl (gD D_L_law_2 19 rfl) (fun x105 s106 hq hx hf => ?_)
  replace hw := hq hx hf
  clear hq hx hf
  refine v_iload X 0 rfl (gD D_L_law_2 20 rfl) ?_
  refine v_icmp_eq X 273 (gD D_L_law_3 0 rfl) (by decide) (fun c107 => ?_) (fun c107 => ?_)
  · replace hw := hw.1 c107
    refine v_goto X 2730 (gD D_L_law_3 3 rfl) (by decide) ?_
    refine v_iinc X (x4 + 7) 5 rfl [(4, .int (x4 + 7)), (5, .int x92), (0, va_rf (some b)), (1, va_rf (some a1)), (2, va_rf (some a2)), (3, va_rf (some a3))] (gD D_L_law_80 3 rfl) rfl (by decide) rfl ?_
    refine v_goto X 23 (gD D_L_law_80 4 rfl) (by decide) ?_
    exact v_sub [0, 1, 2] [2, 3, 4, 5, 0] rfl rfl (hK23 a1 a2 a3 (x4 + 7) s106 k96 n97 hw)
  · replace hw := hw.2 c107
    refine v_iconst X 0 (gD D_L_law_3 1 rfl) (by decide) ?_
    exact hw.elim
set_option maxRecDepth 100000 in
set_option maxHeartbeats 4000000 in
theorem t_L_law_276 {p : Program} {l : Launch} {e : Env} {s : State} {m : MethodId} {below : List Frame} {meth : Method} {c : Code} {G : GX} {σ0 : St} {b L : Nat} {xs : Nat → Int32} (X : VC p l room_1 s m #[Value.ref b] meth c G 11 601024 7293034 7 RL code) (hr : meth.sig.returnType = ret) (htr : l.stackTraces = false) (hX : va_X b L xs s s.heap ∧ b < s.heap.size ∧ ¬ GA G b) (hsz : ∀ q, GA G q → s.heap.size ≤ q) {K23 : Nat → Nat → Nat → Int32 → St → Nat → Nat → Prop} (hK23 : ∀ (a1 : Nat) (a2 : Nat) (a3 : Nat) (x4 : Int32) (σ : St) (k n : Nat), K23 a1 a2 a3 x4 σ k n → V p l e room_1 s m #[Value.ref b] below meth c (lw_Z below #[Value.ref b] s) G 0 σ0 601024 7293034 7 σ k n [(some a1, 12), (some a2, 13), (some a3, 23)] 23 [(0, va_rf (some b)), (1, va_rf (some a1)), (2, va_rf (some a2)), (3, va_rf (some a3)), (4, .int x4)] []) : ∀ (a1 : Nat) (a2 : Nat) (a3 : Nat) (x4 : Int32) (σ : St) (k n : Nat), w_L_law_276 L xs K23 a1 a2 a3 x4 σ k n → V p l e room_1 s m #[Value.ref b] below meth c (lw_Z below #[Value.ref b] s) G 0 σ0 601024 7293034 7 σ k n [(some a1, 12), (some a2, 13), (some a3, 23)] 276 [(0, va_rf (some b)), (1, va_rf (some a1)), (2, va_rf (some a2)), (3, va_rf (some a3)), (4, .int x4)] [] := by
  intro a1 a2 a3 x4 σ k n hw
  unfold w_L_law_276 at hw
  refine v_aload_n X 1 rfl (gD D_L_law_3 4 rfl) rfl ?_
  refine v_aload_n X 0 rfl (gD D_L_law_3 5 rfl) rfl ?_
  refine v_iload X 4 rfl (gD D_L_law_3 6 rfl) ?_
  refine v_iconst X 1 (gD D_L_law_3 7 rfl) (by decide) ?_
  refine v_iadd X (gD D_L_law_3 8 rfl) ?_
  obtain ⟨h108, hw⟩ := hw
  refine v_sld X hX h108 (gD D_L_law_3 9 rfl) ?_
  refine v_aload_n X 0 rfl (gD D_L_law_3 10 rfl) rfl ?_
  refine v_iload X 4 rfl (gD D_L_law_3 11 rfl) ?_
  refine v_iconst X 2 (gD D_L_law_3 12 rfl) (by decide) ?_
  refine v_iadd X (gD D_L_law_3 13 rfl) ?_
  obtain ⟨h109, hw⟩ := hw
  refine v_sld X hX h109 (gD D_L_law_3 14 rfl) ?_
  refine v_aload_n X 0 rfl (gD D_L_law_3 15 rfl) rfl ?_
  refine v_iload X 4 rfl (gD D_L_law_3 16 rfl) ?_
  refine v_iconst X 3 (gD D_L_law_3 17 rfl) (by decide) ?_
  refine v_iadd X (gD D_L_law_3 18 rfl) ?_
  obtain ⟨h110, hw⟩ := hw
  refine v_sld X hX h110 (gD D_L_law_3 19 rfl) ?_
  refine v_aload_n X 0 rfl (gD D_L_law_3 20 rfl) rfl ?_
  refine v_iload X 4 rfl (gD D_L_law_4 0 rfl) ?_
  refine v_iconst X 4 (gD D_L_law_4 1 rfl) (by decide) ?_
  refine v_iadd X (gD D_L_law_4 2 rfl) ?_
  obtain ⟨h111, hw⟩ := hw
  refine v_sld X hX h111 (gD D_L_law_4 3 rfl) ?_
  obtain ⟨k114, n115, k116, n117, h118, h119, hw⟩ := hw
  refine v_callW X (As := [va_rf (some a1), .int (xs (x4 + 1).toNatClampNeg), .int (xs (x4 + 2).toNatClampNeg), .int (xs (x4 + 3).toNatClampNeg), .int (xs (x4 + 4).toNatClampNeg)]) (rest := []) (nA := 5) k114 n115 k116 n117 (fun ht => c_L_face htr (ht.sub [0] rfl) hw) (Or.inr rfl) lk_sRL_143 (by decide +kernel) rfl rfl (by decide) (by decide) (by decide) h118 h119 (gD D_L_law_4 4 rfl) (fun x112 s113 hq hx hf => ?_)
  replace hw := hq hx hf
  clear hq hx hf
  refine v_istore X [(5, .int x112), (0, va_rf (some b)), (1, va_rf (some a1)), (2, va_rf (some a2)), (3, va_rf (some a3)), (4, .int x4)] (gD D_L_law_4 5 rfl) (by decide) rfl ?_
  refine v_aload_n X 3 rfl (gD D_L_law_4 6 rfl) rfl ?_
  refine v_aload_n X 1 rfl (gD D_L_law_4 7 rfl) rfl ?_
  refine v_iload X 5 rfl (gD D_L_law_4 8 rfl) ?_
  refine v_iconst X 1 (gD D_L_law_4 9 rfl) (by decide) ?_
  refine v_iadd X (gD D_L_law_4 10 rfl) ?_
  obtain ⟨h120, hw⟩ := hw
  refine v_sld X hX h120 (gD D_L_law_4 11 rfl) ?_
  refine v_aload_n X 1 rfl (gD D_L_law_4 12 rfl) rfl ?_
  refine v_iload X 5 rfl (gD D_L_law_4 13 rfl) ?_
  refine v_iconst X 2 (gD D_L_law_4 14 rfl) (by decide) ?_
  refine v_iadd X (gD D_L_law_4 15 rfl) ?_
  obtain ⟨h121, hw⟩ := hw
  refine v_sld X hX h121 (gD D_L_law_4 16 rfl) ?_
  refine v_aload_n X 1 rfl (gD D_L_law_4 17 rfl) rfl ?_
  refine v_iload X 5 rfl (gD D_L_law_4 18 rfl) ?_
  refine v_iconst X 3 (gD D_L_law_4 19 rfl) (by decide) ?_
  refine v_iadd X (gD D_L_law_4 20 rfl) ?_
  obtain ⟨h122, hw⟩ := hw
  refine v_sld X hX h122 (gD D_L_law_5 0 rfl) ?_
  refine v_aload_n X 1 rfl (gD D_L_law_5 1 rfl) rfl ?_
  refine v_iload X 5 rfl (gD D_L_law_5 2 rfl) ?_
  refine v_iconst X 4 (gD D_L_law_5 3 rfl) (by decide) ?_
  refine v_iadd X (gD D_L_law_5 4 rfl) ?_
  obtain ⟨h123, hw⟩ := hw
  refine v_sld X hX h123 (gD D_L_law_5 5 rfl) ?_
  refine v_callVv X (As := [.int (xs (x4 + 1).toNatClampNeg), .int (xs (x4 + 2).toNatClampNeg), .int (xs (x4 + 3).toNatClampNeg), .int (xs (x4 + 4).toNatClampNeg)]) (rest := []) (nA := 4) 0 0 k116 n117 (fun ht => c_X12_face htr (ht.sub [1] rfl) hw) (Or.inr rfl) 1 (κ := 13) rfl (by decide) (rfl : gCl[12]? = some (RX12, TX12, 65)) lk_vRL_146 (by decide +kernel) rfl rfl (by decide) (by decide) (by decide) rfl rfl (gD D_L_law_5 6 rfl) (fun s125 hq hx hf => ?_)
  replace hw := hq hx hf
  clear hq hx hf
  refine v_aload_n X 3 rfl (gD D_L_law_5 7 rfl) rfl ?_
  refine v_callVi X (As := []) (rest := []) (nA := 0) 0 0 k116 n117 (fun ht => c_X12_thrown htr (ht.sub [1] rfl) hw) (Or.inr rfl) 1 (κ := 13) rfl (by decide) (rfl : gCl[12]? = some (RX12, TX12, 65)) lk_vRL_139 (by decide +kernel) rfl rfl (by decide) (by decide) (by decide) rfl rfl (gD D_L_law_5 8 rfl) (fun x126 s127 hq hx hf => ?_)
  replace hw := hq hx hf
  clear hq hx hf
  refine v_iload X 0 rfl (gD D_L_law_5 9 rfl) ?_
  refine v_icmp_eq X 345 (gD D_L_law_5 10 rfl) (by decide) (fun c128 => ?_) (fun c128 => ?_)
  · replace hw := hw.1 c128
    refine v_goto X 2730 (gD D_L_law_5 13 rfl) (by decide) ?_
    refine v_iinc X (x4 + 7) 5 rfl [(4, .int (x4 + 7)), (5, .int x112), (0, va_rf (some b)), (1, va_rf (some a1)), (2, va_rf (some a2)), (3, va_rf (some a3))] (gD D_L_law_80 3 rfl) rfl (by decide) rfl ?_
    refine v_goto X 23 (gD D_L_law_80 4 rfl) (by decide) ?_
    exact v_sub [0, 1, 2] [2, 3, 4, 5, 0] rfl rfl (hK23 a1 a2 a3 (x4 + 7) s127 k116 n117 hw)
  · replace hw := hw.2 c128
    refine v_iconst X 0 (gD D_L_law_5 11 rfl) (by decide) ?_
    exact hw.elim
set_option maxRecDepth 100000 in
set_option maxHeartbeats 4000000 in
theorem t_L_law_348 {p : Program} {l : Launch} {e : Env} {s : State} {m : MethodId} {below : List Frame} {meth : Method} {c : Code} {G : GX} {σ0 : St} {b L : Nat} {xs : Nat → Int32} (X : VC p l room_1 s m #[Value.ref b] meth c G 11 601024 7293034 7 RL code) (hr : meth.sig.returnType = ret) (htr : l.stackTraces = false) (hX : va_X b L xs s s.heap ∧ b < s.heap.size ∧ ¬ GA G b) (hsz : ∀ q, GA G q → s.heap.size ≤ q) {K23 : Nat → Nat → Nat → Int32 → St → Nat → Nat → Prop} (hK23 : ∀ (a1 : Nat) (a2 : Nat) (a3 : Nat) (x4 : Int32) (σ : St) (k n : Nat), K23 a1 a2 a3 x4 σ k n → V p l e room_1 s m #[Value.ref b] below meth c (lw_Z below #[Value.ref b] s) G 0 σ0 601024 7293034 7 σ k n [(some a1, 12), (some a2, 13), (some a3, 23)] 23 [(0, va_rf (some b)), (1, va_rf (some a1)), (2, va_rf (some a2)), (3, va_rf (some a3)), (4, .int x4)] []) : ∀ (a1 : Nat) (a2 : Nat) (a3 : Nat) (x4 : Int32) (σ : St) (k n : Nat), w_L_law_348 L xs K23 a1 a2 a3 x4 σ k n → V p l e room_1 s m #[Value.ref b] below meth c (lw_Z below #[Value.ref b] s) G 0 σ0 601024 7293034 7 σ k n [(some a1, 12), (some a2, 13), (some a3, 23)] 348 [(0, va_rf (some b)), (1, va_rf (some a1)), (2, va_rf (some a2)), (3, va_rf (some a3)), (4, .int x4)] [] := by
  intro a1 a2 a3 x4 σ k n hw
  unfold w_L_law_348 at hw
  refine v_aload_n X 1 rfl (gD D_L_law_5 14 rfl) rfl ?_
  refine v_aload_n X 0 rfl (gD D_L_law_5 15 rfl) rfl ?_
  refine v_iload X 4 rfl (gD D_L_law_5 16 rfl) ?_
  refine v_iconst X 1 (gD D_L_law_5 17 rfl) (by decide) ?_
  refine v_iadd X (gD D_L_law_5 18 rfl) ?_
  obtain ⟨h129, hw⟩ := hw
  refine v_sld X hX h129 (gD D_L_law_5 19 rfl) ?_
  refine v_aload_n X 0 rfl (gD D_L_law_5 20 rfl) rfl ?_
  refine v_iload X 4 rfl (gD D_L_law_6 0 rfl) ?_
  refine v_iconst X 2 (gD D_L_law_6 1 rfl) (by decide) ?_
  refine v_iadd X (gD D_L_law_6 2 rfl) ?_
  obtain ⟨h130, hw⟩ := hw
  refine v_sld X hX h130 (gD D_L_law_6 3 rfl) ?_
  refine v_aload_n X 0 rfl (gD D_L_law_6 4 rfl) rfl ?_
  refine v_iload X 4 rfl (gD D_L_law_6 5 rfl) ?_
  refine v_iconst X 3 (gD D_L_law_6 6 rfl) (by decide) ?_
  refine v_iadd X (gD D_L_law_6 7 rfl) ?_
  obtain ⟨h131, hw⟩ := hw
  refine v_sld X hX h131 (gD D_L_law_6 8 rfl) ?_
  refine v_aload_n X 0 rfl (gD D_L_law_6 9 rfl) rfl ?_
  refine v_iload X 4 rfl (gD D_L_law_6 10 rfl) ?_
  refine v_iconst X 4 (gD D_L_law_6 11 rfl) (by decide) ?_
  refine v_iadd X (gD D_L_law_6 12 rfl) ?_
  obtain ⟨h132, hw⟩ := hw
  refine v_sld X hX h132 (gD D_L_law_6 13 rfl) ?_
  refine v_aload_n X 0 rfl (gD D_L_law_6 14 rfl) rfl ?_
  refine v_iload X 4 rfl (gD D_L_law_6 15 rfl) ?_
  refine v_iconst X 5 (gD D_L_law_6 16 rfl) (by decide) ?_
  refine v_iadd X (gD D_L_law_6 17 rfl) ?_
  obtain ⟨h133, hw⟩ := hw
  refine v_sld X hX h133 (gD D_L_law_6 18 rfl) ?_
  refine v_aload_n X 0 rfl (gD D_L_law_6 19 rfl) rfl ?_
  refine v_iload X 4 rfl (gD D_L_law_6 20 rfl) ?_
  refine v_bipush X 6 (gD D_L_law_7 0 rfl) (by decide) ?_
  refine v_iadd X (gD D_L_law_7 1 rfl) ?_
  obtain ⟨h134, hw⟩ := hw
  refine v_sld X hX h134 (gD D_L_law_7 2 rfl) ?_
  obtain ⟨k137, n138, k139, n140, h141, h142, hw⟩ := hw
  refine v_callW X (As := [va_rf (some a1), .int (xs (x4 + 1).toNatClampNeg), .int (xs (x4 + 2).toNatClampNeg), .int (xs (x4 + 3).toNatClampNeg), .int (xs (x4 + 4).toNatClampNeg), .int (xs (x4 + 5).toNatClampNeg), .int (xs (x4 + 6).toNatClampNeg)]) (rest := []) (nA := 7) k137 n138 k139 n140 (fun ht => c_L_item htr (ht.sub [0] rfl) hw) (Or.inr rfl) lk_sRL_147 (by decide +kernel) rfl rfl (by decide) (by decide) (by decide) h141 h142 (gD D_L_law_7 3 rfl) (fun x135 s136 hq hx hf => ?_)
  replace hw := hq hx hf
  clear hq hx hf
  refine v_istore X [(5, .int x135), (0, va_rf (some b)), (1, va_rf (some a1)), (2, va_rf (some a2)), (3, va_rf (some a3)), (4, .int x4)] (gD D_L_law_7 4 rfl) (by decide) rfl ?_
  refine v_aload_n X 3 rfl (gD D_L_law_7 5 rfl) rfl ?_
  refine v_aload_n X 1 rfl (gD D_L_law_7 6 rfl) rfl ?_
  refine v_iload X 5 rfl (gD D_L_law_7 7 rfl) ?_
  refine v_iconst X 1 (gD D_L_law_7 8 rfl) (by decide) ?_
  refine v_iadd X (gD D_L_law_7 9 rfl) ?_
  obtain ⟨h143, hw⟩ := hw
  refine v_sld X hX h143 (gD D_L_law_7 10 rfl) ?_
  refine v_aload_n X 1 rfl (gD D_L_law_7 11 rfl) rfl ?_
  refine v_iload X 5 rfl (gD D_L_law_7 12 rfl) ?_
  refine v_iconst X 2 (gD D_L_law_7 13 rfl) (by decide) ?_
  refine v_iadd X (gD D_L_law_7 14 rfl) ?_
  obtain ⟨h144, hw⟩ := hw
  refine v_sld X hX h144 (gD D_L_law_7 15 rfl) ?_
  refine v_aload_n X 1 rfl (gD D_L_law_7 16 rfl) rfl ?_
  refine v_iload X 5 rfl (gD D_L_law_7 17 rfl) ?_
  refine v_iconst X 3 (gD D_L_law_7 18 rfl) (by decide) ?_
  refine v_iadd X (gD D_L_law_7 19 rfl) ?_
  obtain ⟨h145, hw⟩ := hw
  refine v_sld X hX h145 (gD D_L_law_7 20 rfl) ?_
  refine v_aload_n X 1 rfl (gD D_L_law_8 0 rfl) rfl ?_
  refine v_iload X 5 rfl (gD D_L_law_8 1 rfl) ?_
  refine v_iconst X 4 (gD D_L_law_8 2 rfl) (by decide) ?_
  refine v_iadd X (gD D_L_law_8 3 rfl) ?_
  obtain ⟨h146, hw⟩ := hw
  refine v_sld X hX h146 (gD D_L_law_8 4 rfl) ?_
  refine v_aload_n X 1 rfl (gD D_L_law_8 5 rfl) rfl ?_
  refine v_iload X 5 rfl (gD D_L_law_8 6 rfl) ?_
  refine v_iconst X 5 (gD D_L_law_8 7 rfl) (by decide) ?_
  refine v_iadd X (gD D_L_law_8 8 rfl) ?_
  obtain ⟨h147, hw⟩ := hw
  refine v_sld X hX h147 (gD D_L_law_8 9 rfl) ?_
  refine v_aload_n X 1 rfl (gD D_L_law_8 10 rfl) rfl ?_
  refine v_iload X 5 rfl (gD D_L_law_8 11 rfl) ?_
  refine v_bipush X 6 (gD D_L_law_8 12 rfl) (by decide) ?_
  refine v_iadd X (gD D_L_law_8 13 rfl) ?_
  obtain ⟨h148, hw⟩ := hw
  refine v_sld X hX h148 (gD D_L_law_8 14 rfl) ?_
  refine v_callVv X (As := [.int (xs (x4 + 1).toNatClampNeg), .int (xs (x4 + 2).toNatClampNeg), .int (xs (x4 + 3).toNatClampNeg), .int (xs (x4 + 4).toNatClampNeg), .int (xs (x4 + 5).toNatClampNeg), .int (xs (x4 + 6).toNatClampNeg)]) (rest := []) (nA := 6) 0 0 k139 n140 (fun ht => c_X12_item htr (ht.sub [1] rfl) hw) (Or.inr rfl) 1 (κ := 13) rfl (by decide) (rfl : gCl[12]? = some (RX12, TX12, 65)) lk_vRL_150 (by decide +kernel) rfl rfl (by decide) (by decide) (by decide) rfl rfl (gD D_L_law_8 15 rfl) (fun s150 hq hx hf => ?_)
  replace hw := hq hx hf
  clear hq hx hf
  refine v_aload_n X 3 rfl (gD D_L_law_8 16 rfl) rfl ?_
  refine v_callVi X (As := []) (rest := []) (nA := 0) 0 0 k139 n140 (fun ht => c_X12_thrown htr (ht.sub [1] rfl) hw) (Or.inr rfl) 1 (κ := 13) rfl (by decide) (rfl : gCl[12]? = some (RX12, TX12, 65)) lk_vRL_139 (by decide +kernel) rfl rfl (by decide) (by decide) (by decide) rfl rfl (gD D_L_law_8 17 rfl) (fun x151 s152 hq hx hf => ?_)
  replace hw := hq hx hf
  clear hq hx hf
  refine v_iload X 0 rfl (gD D_L_law_8 18 rfl) ?_
  refine v_icmp_eq X 443 (gD D_L_law_8 19 rfl) (by decide) (fun c153 => ?_) (fun c153 => ?_)
  · replace hw := hw.1 c153
    refine v_goto X 2730 (gD D_L_law_9 1 rfl) (by decide) ?_
    refine v_iinc X (x4 + 7) 5 rfl [(4, .int (x4 + 7)), (5, .int x135), (0, va_rf (some b)), (1, va_rf (some a1)), (2, va_rf (some a2)), (3, va_rf (some a3))] (gD D_L_law_80 3 rfl) rfl (by decide) rfl ?_
    refine v_goto X 23 (gD D_L_law_80 4 rfl) (by decide) ?_
    exact v_sub [0, 1, 2] [2, 3, 4, 5, 0] rfl rfl (hK23 a1 a2 a3 (x4 + 7) s152 k139 n140 hw)
  · replace hw := hw.2 c153
    refine v_iconst X 0 (gD D_L_law_8 20 rfl) (by decide) ?_
    exact hw.elim
set_option maxRecDepth 100000 in
set_option maxHeartbeats 4000000 in
theorem t_L_law_540 {p : Program} {l : Launch} {e : Env} {s : State} {m : MethodId} {below : List Frame} {meth : Method} {c : Code} {G : GX} {σ0 : St} {b L : Nat} {xs : Nat → Int32} (X : VC p l room_1 s m #[Value.ref b] meth c G 11 601024 7293034 7 RL code) (hr : meth.sig.returnType = ret) (htr : l.stackTraces = false) (hX : va_X b L xs s s.heap ∧ b < s.heap.size ∧ ¬ GA G b) (hsz : ∀ q, GA G q → s.heap.size ≤ q) {K23 : Nat → Nat → Nat → Int32 → St → Nat → Nat → Prop} (hK23 : ∀ (a1 : Nat) (a2 : Nat) (a3 : Nat) (x4 : Int32) (σ : St) (k n : Nat), K23 a1 a2 a3 x4 σ k n → V p l e room_1 s m #[Value.ref b] below meth c (lw_Z below #[Value.ref b] s) G 0 σ0 601024 7293034 7 σ k n [(some a1, 12), (some a2, 13), (some a3, 23)] 23 [(0, va_rf (some b)), (1, va_rf (some a1)), (2, va_rf (some a2)), (3, va_rf (some a3)), (4, .int x4)] []) : ∀ (a1 : Nat) (a2 : Nat) (a3 : Nat) (x4 : Int32) (xs0 : Int32) (xs1 : Int32) (σ : St) (k n : Nat), w_L_law_540 L xs K23 a1 a2 a3 x4 xs0 xs1 σ k n → V p l e room_1 s m #[Value.ref b] below meth c (lw_Z below #[Value.ref b] s) G 0 σ0 601024 7293034 7 σ k n [(some a1, 12), (some a2, 13), (some a3, 23)] 540 [(0, va_rf (some b)), (1, va_rf (some a1)), (2, va_rf (some a2)), (3, va_rf (some a3)), (4, .int x4)] [.long xs1.toInt64, .long xs0.toInt64] := by
  intro a1 a2 a3 x4 xs0 xs1 σ k n hw
  unfold w_L_law_540 at hw
  refine v_lcmp X (gD D_L_law_12 0 rfl) ?_
  refine v_if_eq X 546 (gD D_L_law_12 1 rfl) (by decide) (fun c178 => ?_) (fun c178 => ?_)
  · replace hw := hw.1 c178
    refine v_goto X 2730 (gD D_L_law_12 4 rfl) (by decide) ?_
    refine v_iinc X (x4 + 7) 4 rfl [(4, .int (x4 + 7)), (0, va_rf (some b)), (1, va_rf (some a1)), (2, va_rf (some a2)), (3, va_rf (some a3))] (gD D_L_law_80 3 rfl) rfl (by decide) rfl ?_
    refine v_goto X 23 (gD D_L_law_80 4 rfl) (by decide) ?_
    exact v_sub [0, 1, 2] [1, 2, 3, 4, 0] rfl rfl (hK23 a1 a2 a3 (x4 + 7) σ k n hw)
  · replace hw := hw.2 c178
    refine v_iconst X 0 (gD D_L_law_12 2 rfl) (by decide) ?_
    exact hw.elim
set_option maxRecDepth 100000 in
set_option maxHeartbeats 4000000 in
theorem t_L_law_506 {p : Program} {l : Launch} {e : Env} {s : State} {m : MethodId} {below : List Frame} {meth : Method} {c : Code} {G : GX} {σ0 : St} {b L : Nat} {xs : Nat → Int32} (X : VC p l room_1 s m #[Value.ref b] meth c G 11 601024 7293034 7 RL code) (hr : meth.sig.returnType = ret) (htr : l.stackTraces = false) (hX : va_X b L xs s s.heap ∧ b < s.heap.size ∧ ¬ GA G b) (hsz : ∀ q, GA G q → s.heap.size ≤ q) {K23 : Nat → Nat → Nat → Int32 → St → Nat → Nat → Prop} (hK23 : ∀ (a1 : Nat) (a2 : Nat) (a3 : Nat) (x4 : Int32) (σ : St) (k n : Nat), K23 a1 a2 a3 x4 σ k n → V p l e room_1 s m #[Value.ref b] below meth c (lw_Z below #[Value.ref b] s) G 0 σ0 601024 7293034 7 σ k n [(some a1, 12), (some a2, 13), (some a3, 23)] 23 [(0, va_rf (some b)), (1, va_rf (some a1)), (2, va_rf (some a2)), (3, va_rf (some a3)), (4, .int x4)] []) : ∀ (a1 : Nat) (a2 : Nat) (a3 : Nat) (x4 : Int32) (x5 : Int32) (as0 : Nat) (xs1 : Int32) (xs2 : Int32) (xs3 : Int32) (σ : St) (k n : Nat), w_L_law_506 L xs K23 a1 a2 a3 x4 x5 as0 xs1 xs2 xs3 σ k n → V p l e room_1 s m #[Value.ref b] below meth c (lw_Z below #[Value.ref b] s) G 0 σ0 601024 7293034 7 σ k n [(some a1, 12), (some a2, 13), (some a3, 23), (some as0, 13)] 506 [(0, va_rf (some b)), (1, va_rf (some a1)), (2, va_rf (some a2)), (3, va_rf (some a3)), (4, .int x4), (5, .int x5)] [.int xs3, .int xs2, .int xs1, va_rf (some as0)] := by
  intro a1 a2 a3 x4 x5 as0 xs1 xs2 xs3 σ k n hw
  unfold w_L_law_506 at hw
  refine v_callVi X (As := [.int xs1, .int xs2, .int xs3]) (rest := []) (nA := 3) 0 0 k n (fun ht => c_X12_bar htr (ht.sub [3] rfl) hw) (Or.inr rfl) 3 (κ := 13) rfl (by decide) (rfl : gCl[12]? = some (RX12, TX12, 65)) lk_vRL_154 (by decide +kernel) rfl rfl (by decide) (by decide) (by decide) rfl rfl (gD D_L_law_11 3 rfl) (fun x170 s171 hq hx hf => ?_)
  replace hw := hq hx hf
  clear hq hx hf
  refine v_istore X [(6, .int x170), (0, va_rf (some b)), (1, va_rf (some a1)), (2, va_rf (some a2)), (3, va_rf (some a3)), (4, .int x4), (5, .int x5)] (gD D_L_law_11 4 rfl) (by decide) rfl ?_
  refine v_aload_n X 3 rfl (gD D_L_law_11 5 rfl) rfl ?_
  refine v_callVi X (As := []) (rest := []) (nA := 0) 0 0 k n (fun ht => c_X12_thrown htr (ht.sub [1] rfl) hw) (Or.inr rfl) 1 (κ := 13) rfl (by decide) (rfl : gCl[12]? = some (RX12, TX12, 65)) lk_vRL_139 (by decide +kernel) rfl rfl (by decide) (by decide) (by decide) rfl rfl (gD D_L_law_11 6 rfl) (fun x172 s173 hq hx hf => ?_)
  replace hw := hq hx hf
  clear hq hx hf
  refine v_iload X 6 rfl (gD D_L_law_11 7 rfl) ?_
  refine v_icmp_eq X 522 (gD D_L_law_11 8 rfl) (by decide) (fun c174 => ?_) (fun c174 => ?_)
  · replace hw := hw.1 c174
    refine v_iload X 6 rfl (gD D_L_law_11 11 rfl) ?_
    refine v_if_ne X 546 (gD D_L_law_11 12 rfl) (by decide) (fun c175 => ?_) (fun c175 => ?_)
    · replace hw := hw.1 c175
      refine v_goto X 2730 (gD D_L_law_12 4 rfl) (by decide) ?_
      refine v_iinc X (x4 + 7) 5 rfl [(4, .int (x4 + 7)), (6, .int x170), (0, va_rf (some b)), (1, va_rf (some a1)), (2, va_rf (some a2)), (3, va_rf (some a3)), (5, .int x5)] (gD D_L_law_80 3 rfl) rfl (by decide) rfl ?_
      refine v_goto X 23 (gD D_L_law_80 4 rfl) (by decide) ?_
      exact v_sub [0, 1, 2] [2, 3, 4, 5, 0] rfl rfl (hK23 a1 a2 a3 (x4 + 7) s173 k n hw)
    · replace hw := hw.2 c175
      refine v_aload_n X 4 rfl (gD D_L_law_11 13 rfl) rfl ?_
      refine v_iconst X 0 (gD D_L_law_11 14 rfl) (by decide) ?_
      obtain ⟨h176, hw⟩ := hw
      refine v_lald X 2 rfl h176 (gD D_L_law_11 15 rfl) ?_
      refine v_iload X 0 rfl (gD D_L_law_11 16 rfl) ?_
      refine v_if_eq X 539 (gD D_L_law_11 17 rfl) (by decide) (fun c177 => ?_) (fun c177 => ?_)
      · replace hw := hw.1 c177
        refine v_lconst X (Int32.toInt64 0) (gD D_L_law_11 20 rfl) (by decide) ?_
        exact v_sub [0, 1, 2] [1, 2, 3, 4, 5] rfl rfl (t_L_law_540 X hr htr hX hsz hK23 a1 a2 a3 x4 (sA s173 a3 (0 : Int32).toNatClampNeg) 0 s173 k n hw)
      · replace hw := hw.2 c177
        refine v_lconst X (Int32.toInt64 1) (gD D_L_law_11 18 rfl) (by decide) ?_
        refine v_goto X 540 (gD D_L_law_11 19 rfl) (by decide) ?_
        exact v_sub [0, 1, 2] [1, 2, 3, 4, 5] rfl rfl (t_L_law_540 X hr htr hX hsz hK23 a1 a2 a3 x4 (sA s173 a3 (0 : Int32).toNatClampNeg) 1 s173 k n hw)
  · replace hw := hw.2 c174
    refine v_iconst X 0 (gD D_L_law_11 9 rfl) (by decide) ?_
    exact hw.elim
set_option maxRecDepth 100000 in
set_option maxHeartbeats 4000000 in
theorem t_L_law_473 {p : Program} {l : Launch} {e : Env} {s : State} {m : MethodId} {below : List Frame} {meth : Method} {c : Code} {G : GX} {σ0 : St} {b L : Nat} {xs : Nat → Int32} (X : VC p l room_1 s m #[Value.ref b] meth c G 11 601024 7293034 7 RL code) (hr : meth.sig.returnType = ret) (htr : l.stackTraces = false) (hX : va_X b L xs s s.heap ∧ b < s.heap.size ∧ ¬ GA G b) (hsz : ∀ q, GA G q → s.heap.size ≤ q) {K23 : Nat → Nat → Nat → Int32 → St → Nat → Nat → Prop} (hK23 : ∀ (a1 : Nat) (a2 : Nat) (a3 : Nat) (x4 : Int32) (σ : St) (k n : Nat), K23 a1 a2 a3 x4 σ k n → V p l e room_1 s m #[Value.ref b] below meth c (lw_Z below #[Value.ref b] s) G 0 σ0 601024 7293034 7 σ k n [(some a1, 12), (some a2, 13), (some a3, 23)] 23 [(0, va_rf (some b)), (1, va_rf (some a1)), (2, va_rf (some a2)), (3, va_rf (some a3)), (4, .int x4)] []) : ∀ (a1 : Nat) (a2 : Nat) (a3 : Nat) (x4 : Int32) (as0 : Nat) (xs1 : Int32) (xs2 : Int32) (xs3 : Int32) (σ : St) (k n : Nat), w_L_law_473 L xs K23 a1 a2 a3 x4 as0 xs1 xs2 xs3 σ k n → V p l e room_1 s m #[Value.ref b] below meth c (lw_Z below #[Value.ref b] s) G 0 σ0 601024 7293034 7 σ k n [(some a1, 12), (some a2, 13), (some a3, 23), (some as0, 12)] 473 [(0, va_rf (some b)), (1, va_rf (some a1)), (2, va_rf (some a2)), (3, va_rf (some a3)), (4, .int x4)] [.int xs3, .int xs2, .int xs1, va_rf (some as0)] := by
  intro a1 a2 a3 x4 as0 xs1 xs2 xs3 σ k n hw
  unfold w_L_law_473 at hw
  refine v_aload_n X 3 rfl (gD D_L_law_10 1 rfl) rfl ?_
  obtain ⟨k160, n161, k162, n163, h164, h165, hw⟩ := hw
  refine v_callW X (As := [va_rf (some as0), .int xs1, .int xs2, .int xs3, va_rf (some a3)]) (rest := []) (nA := 5) k160 n161 k162 n163 (fun ht => c_L_bar htr (ht.sub [3, 2] rfl) hw) (Or.inr rfl) lk_sRL_151 (by decide +kernel) rfl rfl (by decide) (by decide) (by decide) h164 h165 (gD D_L_law_10 2 rfl) (fun x158 s159 hq hx hf => ?_)
  replace hw := hq hx hf
  clear hq hx hf
  refine v_istore X [(5, .int x158), (0, va_rf (some b)), (1, va_rf (some a1)), (2, va_rf (some a2)), (3, va_rf (some a3)), (4, .int x4)] (gD D_L_law_10 3 rfl) (by decide) rfl ?_
  refine v_aload_n X 3 rfl (gD D_L_law_10 4 rfl) rfl ?_
  refine v_aload_n X 1 rfl (gD D_L_law_10 5 rfl) rfl ?_
  refine v_iload X 5 rfl (gD D_L_law_10 6 rfl) ?_
  refine v_iconst X 1 (gD D_L_law_10 7 rfl) (by decide) ?_
  refine v_iadd X (gD D_L_law_10 8 rfl) ?_
  obtain ⟨h166, hw⟩ := hw
  refine v_sld X hX h166 (gD D_L_law_10 9 rfl) ?_
  refine v_aload_n X 1 rfl (gD D_L_law_10 10 rfl) rfl ?_
  refine v_iload X 5 rfl (gD D_L_law_10 11 rfl) ?_
  refine v_iconst X 2 (gD D_L_law_10 12 rfl) (by decide) ?_
  refine v_iadd X (gD D_L_law_10 13 rfl) ?_
  obtain ⟨h167, hw⟩ := hw
  refine v_sld X hX h167 (gD D_L_law_10 14 rfl) ?_
  refine v_aload_n X 1 rfl (gD D_L_law_10 15 rfl) rfl ?_
  refine v_iload X 5 rfl (gD D_L_law_10 16 rfl) ?_
  refine v_iconst X 3 (gD D_L_law_10 17 rfl) (by decide) ?_
  refine v_iadd X (gD D_L_law_10 18 rfl) ?_
  obtain ⟨h168, hw⟩ := hw
  refine v_sld X hX h168 (gD D_L_law_10 19 rfl) ?_
  refine v_if_eq X 505 (gD D_L_law_10 20 rfl) (by decide) (fun c169 => ?_) (fun c169 => ?_)
  · replace hw := hw.1 c169
    refine v_iconst X 0 (gD D_L_law_11 2 rfl) (by decide) ?_
    exact v_sub [0, 1, 2, 1] [1, 2, 3, 4, 5, 0] rfl rfl (t_L_law_506 X hr htr hX hsz hK23 a1 a2 a3 x4 x158 a2 (xs (x4 + 1).toNatClampNeg) (xs (x4 + 2).toNatClampNeg) 0 s159 k162 n163 hw)
  · replace hw := hw.2 c169
    refine v_iconst X 1 (gD D_L_law_11 0 rfl) (by decide) ?_
    refine v_goto X 506 (gD D_L_law_11 1 rfl) (by decide) ?_
    exact v_sub [0, 1, 2, 1] [1, 2, 3, 4, 5, 0] rfl rfl (t_L_law_506 X hr htr hX hsz hK23 a1 a2 a3 x4 x158 a2 (xs (x4 + 1).toNatClampNeg) (xs (x4 + 2).toNatClampNeg) 1 s159 k162 n163 hw)
set_option maxRecDepth 100000 in
set_option maxHeartbeats 4000000 in
theorem t_L_law_446 {p : Program} {l : Launch} {e : Env} {s : State} {m : MethodId} {below : List Frame} {meth : Method} {c : Code} {G : GX} {σ0 : St} {b L : Nat} {xs : Nat → Int32} (X : VC p l room_1 s m #[Value.ref b] meth c G 11 601024 7293034 7 RL code) (hr : meth.sig.returnType = ret) (htr : l.stackTraces = false) (hX : va_X b L xs s s.heap ∧ b < s.heap.size ∧ ¬ GA G b) (hsz : ∀ q, GA G q → s.heap.size ≤ q) {K23 : Nat → Nat → Nat → Int32 → St → Nat → Nat → Prop} (hK23 : ∀ (a1 : Nat) (a2 : Nat) (a3 : Nat) (x4 : Int32) (σ : St) (k n : Nat), K23 a1 a2 a3 x4 σ k n → V p l e room_1 s m #[Value.ref b] below meth c (lw_Z below #[Value.ref b] s) G 0 σ0 601024 7293034 7 σ k n [(some a1, 12), (some a2, 13), (some a3, 23)] 23 [(0, va_rf (some b)), (1, va_rf (some a1)), (2, va_rf (some a2)), (3, va_rf (some a3)), (4, .int x4)] []) : ∀ (a1 : Nat) (a2 : Nat) (a3 : Nat) (x4 : Int32) (σ : St) (k n : Nat), w_L_law_446 L xs K23 a1 a2 a3 x4 σ k n → V p l e room_1 s m #[Value.ref b] below meth c (lw_Z below #[Value.ref b] s) G 0 σ0 601024 7293034 7 σ k n [(some a1, 12), (some a2, 13), (some a3, 23)] 446 [(0, va_rf (some b)), (1, va_rf (some a1)), (2, va_rf (some a2)), (3, va_rf (some a3)), (4, .int x4)] [] := by
  intro a1 a2 a3 x4 σ k n hw
  unfold w_L_law_446 at hw
  refine v_aload_n X 1 rfl (gD D_L_law_9 2 rfl) rfl ?_
  refine v_aload_n X 0 rfl (gD D_L_law_9 3 rfl) rfl ?_
  refine v_iload X 4 rfl (gD D_L_law_9 4 rfl) ?_
  refine v_iconst X 1 (gD D_L_law_9 5 rfl) (by decide) ?_
  refine v_iadd X (gD D_L_law_9 6 rfl) ?_
  obtain ⟨h154, hw⟩ := hw
  refine v_sld X hX h154 (gD D_L_law_9 7 rfl) ?_
  refine v_aload_n X 0 rfl (gD D_L_law_9 8 rfl) rfl ?_
  refine v_iload X 4 rfl (gD D_L_law_9 9 rfl) ?_
  refine v_iconst X 2 (gD D_L_law_9 10 rfl) (by decide) ?_
  refine v_iadd X (gD D_L_law_9 11 rfl) ?_
  obtain ⟨h155, hw⟩ := hw
  refine v_sld X hX h155 (gD D_L_law_9 12 rfl) ?_
  refine v_aload_n X 0 rfl (gD D_L_law_9 13 rfl) rfl ?_
  refine v_iload X 4 rfl (gD D_L_law_9 14 rfl) ?_
  refine v_iconst X 3 (gD D_L_law_9 15 rfl) (by decide) ?_
  refine v_iadd X (gD D_L_law_9 16 rfl) ?_
  obtain ⟨h156, hw⟩ := hw
  refine v_sld X hX h156 (gD D_L_law_9 17 rfl) ?_
  refine v_if_eq X 472 (gD D_L_law_9 18 rfl) (by decide) (fun c157 => ?_) (fun c157 => ?_)
  · replace hw := hw.1 c157
    refine v_iconst X 0 (gD D_L_law_10 0 rfl) (by decide) ?_
    exact v_sub [0, 1, 2, 0] [0, 1, 2, 3, 4] rfl rfl (t_L_law_473 X hr htr hX hsz hK23 a1 a2 a3 x4 a1 (xs (x4 + 1).toNatClampNeg) (xs (x4 + 2).toNatClampNeg) 0 σ k n hw)
  · replace hw := hw.2 c157
    refine v_iconst X 1 (gD D_L_law_9 19 rfl) (by decide) ?_
    refine v_goto X 473 (gD D_L_law_9 20 rfl) (by decide) ?_
    exact v_sub [0, 1, 2, 0] [0, 1, 2, 3, 4] rfl rfl (t_L_law_473 X hr htr hX hsz hK23 a1 a2 a3 x4 a1 (xs (x4 + 1).toNatClampNeg) (xs (x4 + 2).toNatClampNeg) 1 σ k n hw)
set_option maxRecDepth 100000 in
set_option maxHeartbeats 4000000 in
theorem t_L_law_549 {p : Program} {l : Launch} {e : Env} {s : State} {m : MethodId} {below : List Frame} {meth : Method} {c : Code} {G : GX} {σ0 : St} {b L : Nat} {xs : Nat → Int32} (X : VC p l room_1 s m #[Value.ref b] meth c G 11 601024 7293034 7 RL code) (hr : meth.sig.returnType = ret) (htr : l.stackTraces = false) (hX : va_X b L xs s s.heap ∧ b < s.heap.size ∧ ¬ GA G b) (hsz : ∀ q, GA G q → s.heap.size ≤ q) {K23 : Nat → Nat → Nat → Int32 → St → Nat → Nat → Prop} (hK23 : ∀ (a1 : Nat) (a2 : Nat) (a3 : Nat) (x4 : Int32) (σ : St) (k n : Nat), K23 a1 a2 a3 x4 σ k n → V p l e room_1 s m #[Value.ref b] below meth c (lw_Z below #[Value.ref b] s) G 0 σ0 601024 7293034 7 σ k n [(some a1, 12), (some a2, 13), (some a3, 23)] 23 [(0, va_rf (some b)), (1, va_rf (some a1)), (2, va_rf (some a2)), (3, va_rf (some a3)), (4, .int x4)] []) : ∀ (a1 : Nat) (a2 : Nat) (a3 : Nat) (x4 : Int32) (σ : St) (k n : Nat), w_L_law_549 L xs K23 a1 a2 a3 x4 σ k n → V p l e room_1 s m #[Value.ref b] below meth c (lw_Z below #[Value.ref b] s) G 0 σ0 601024 7293034 7 σ k n [(some a1, 12), (some a2, 13), (some a3, 23)] 549 [(0, va_rf (some b)), (1, va_rf (some a1)), (2, va_rf (some a2)), (3, va_rf (some a3)), (4, .int x4)] [] := by
  intro a1 a2 a3 x4 σ k n hw
  unfold w_L_law_549 at hw
  refine v_aload_n X 1 rfl (gD D_L_law_12 5 rfl) rfl ?_
  refine v_aload_n X 0 rfl (gD D_L_law_12 6 rfl) rfl ?_
  refine v_iload X 4 rfl (gD D_L_law_12 7 rfl) ?_
  refine v_iconst X 1 (gD D_L_law_12 8 rfl) (by decide) ?_
  refine v_iadd X (gD D_L_law_12 9 rfl) ?_
  obtain ⟨h179, hw⟩ := hw
  refine v_sld X hX h179 (gD D_L_law_12 10 rfl) ?_
  refine v_aload_n X 0 rfl (gD D_L_law_12 11 rfl) rfl ?_
  refine v_iload X 4 rfl (gD D_L_law_12 12 rfl) ?_
  refine v_iconst X 2 (gD D_L_law_12 13 rfl) (by decide) ?_
  refine v_iadd X (gD D_L_law_12 14 rfl) ?_
  obtain ⟨h180, hw⟩ := hw
  refine v_sld X hX h180 (gD D_L_law_12 15 rfl) ?_
  refine v_aload_n X 3 rfl (gD D_L_law_12 16 rfl) rfl ?_
  obtain ⟨k183, n184, k185, n186, h187, h188, hw⟩ := hw
  refine v_callW X (As := [va_rf (some a1), .int (xs (x4 + 1).toNatClampNeg), .int (xs (x4 + 2).toNatClampNeg), va_rf (some a3)]) (rest := []) (nA := 4) k183 n184 k185 n186 (fun ht => c_L_lot htr (ht.sub [0, 2] rfl) hw) (Or.inr rfl) lk_sRL_155 (by decide +kernel) rfl rfl (by decide) (by decide) (by decide) h187 h188 (gD D_L_law_12 17 rfl) (fun x181 s182 hq hx hf => ?_)
  replace hw := hq hx hf
  clear hq hx hf
  refine v_istore X [(5, .int x181), (0, va_rf (some b)), (1, va_rf (some a1)), (2, va_rf (some a2)), (3, va_rf (some a3)), (4, .int x4)] (gD D_L_law_12 18 rfl) (by decide) rfl ?_
  refine v_aload_n X 3 rfl (gD D_L_law_12 19 rfl) rfl ?_
  refine v_aload_n X 1 rfl (gD D_L_law_12 20 rfl) rfl ?_
  refine v_iload X 5 rfl (gD D_L_law_13 0 rfl) ?_
  refine v_iconst X 1 (gD D_L_law_13 1 rfl) (by decide) ?_
  refine v_iadd X (gD D_L_law_13 2 rfl) ?_
  obtain ⟨h189, hw⟩ := hw
  refine v_sld X hX h189 (gD D_L_law_13 3 rfl) ?_
  refine v_aload_n X 1 rfl (gD D_L_law_13 4 rfl) rfl ?_
  refine v_iload X 5 rfl (gD D_L_law_13 5 rfl) ?_
  refine v_iconst X 2 (gD D_L_law_13 6 rfl) (by decide) ?_
  refine v_iadd X (gD D_L_law_13 7 rfl) ?_
  obtain ⟨h190, hw⟩ := hw
  refine v_sld X hX h190 (gD D_L_law_13 8 rfl) ?_
  refine v_callVi X (As := [.int (xs (x4 + 1).toNatClampNeg), .int (xs (x4 + 2).toNatClampNeg)]) (rest := []) (nA := 2) 0 0 k185 n186 (fun ht => c_X12_lot htr (ht.sub [1] rfl) hw) (Or.inr rfl) 1 (κ := 13) rfl (by decide) (rfl : gCl[12]? = some (RX12, TX12, 65)) lk_vRL_158 (by decide +kernel) rfl rfl (by decide) (by decide) (by decide) rfl rfl (gD D_L_law_13 9 rfl) (fun x191 s192 hq hx hf => ?_)
  replace hw := hq hx hf
  clear hq hx hf
  refine v_istore X [(6, .int x191), (5, .int x181), (0, va_rf (some b)), (1, va_rf (some a1)), (2, va_rf (some a2)), (3, va_rf (some a3)), (4, .int x4)] (gD D_L_law_13 10 rfl) (by decide) rfl ?_
  refine v_aload_n X 4 rfl (gD D_L_law_13 11 rfl) rfl ?_
  refine v_callVi X (As := []) (rest := []) (nA := 0) 0 0 k185 n186 (fun ht => c_X12_thrown htr (ht.sub [1] rfl) hw) (Or.inr rfl) 1 (κ := 13) rfl (by decide) (rfl : gCl[12]? = some (RX12, TX12, 65)) lk_vRL_139 (by decide +kernel) rfl rfl (by decide) (by decide) (by decide) rfl rfl (gD D_L_law_13 12 rfl) (fun x193 s194 hq hx hf => ?_)
  replace hw := hq hx hf
  clear hq hx hf
  refine v_iload X 1 rfl (gD D_L_law_13 13 rfl) ?_
  refine v_icmp_eq X 597 (gD D_L_law_13 14 rfl) (by decide) (fun c195 => ?_) (fun c195 => ?_)
  · replace hw := hw.1 c195
    refine v_iload X 1 rfl (gD D_L_law_13 17 rfl) ?_
    refine v_if_ne X 614 (gD D_L_law_13 18 rfl) (by decide) (fun c196 => ?_) (fun c196 => ?_)
    · replace hw := hw.1 c196
      refine v_goto X 2730 (gD D_L_law_14 7 rfl) (by decide) ?_
      refine v_iinc X (x4 + 7) 6 rfl [(4, .int (x4 + 7)), (6, .int x191), (5, .int x181), (0, va_rf (some b)), (1, va_rf (some a1)), (2, va_rf (some a2)), (3, va_rf (some a3))] (gD D_L_law_80 3 rfl) rfl (by decide) rfl ?_
      refine v_goto X 23 (gD D_L_law_80 4 rfl) (by decide) ?_
      exact v_sub [0, 1, 2] [3, 4, 5, 6, 0] rfl rfl (hK23 a1 a2 a3 (x4 + 7) s194 k185 n186 hw)
    · replace hw := hw.2 c196
      refine v_aload_n X 5 rfl (gD D_L_law_13 19 rfl) rfl ?_
      refine v_iconst X 0 (gD D_L_law_13 20 rfl) (by decide) ?_
      obtain ⟨h197, hw⟩ := hw
      refine v_lald X 2 rfl h197 (gD D_L_law_14 0 rfl) ?_
      refine v_iload X 0 rfl (gD D_L_law_14 1 rfl) ?_
      refine v_i2l X (gD D_L_law_14 2 rfl) ?_
      refine v_lcmp X (gD D_L_law_14 3 rfl) ?_
      refine v_if_eq X 614 (gD D_L_law_14 4 rfl) (by decide) (fun c198 => ?_) (fun c198 => ?_)
      · replace hw := hw.1 c198
        refine v_goto X 2730 (gD D_L_law_14 7 rfl) (by decide) ?_
        refine v_iinc X (x4 + 7) 6 rfl [(4, .int (x4 + 7)), (6, .int x191), (5, .int x181), (0, va_rf (some b)), (1, va_rf (some a1)), (2, va_rf (some a2)), (3, va_rf (some a3))] (gD D_L_law_80 3 rfl) rfl (by decide) rfl ?_
        refine v_goto X 23 (gD D_L_law_80 4 rfl) (by decide) ?_
        exact v_sub [0, 1, 2] [3, 4, 5, 6, 0] rfl rfl (hK23 a1 a2 a3 (x4 + 7) s194 k185 n186 hw)
      · replace hw := hw.2 c198
        refine v_iconst X 0 (gD D_L_law_14 5 rfl) (by decide) ?_
        exact hw.elim
  · replace hw := hw.2 c195
    refine v_iconst X 0 (gD D_L_law_13 15 rfl) (by decide) ?_
    exact hw.elim
set_option maxRecDepth 100000 in
set_option maxHeartbeats 4000000 in
theorem t_L_law_617 {p : Program} {l : Launch} {e : Env} {s : State} {m : MethodId} {below : List Frame} {meth : Method} {c : Code} {G : GX} {σ0 : St} {b L : Nat} {xs : Nat → Int32} (X : VC p l room_1 s m #[Value.ref b] meth c G 11 601024 7293034 7 RL code) (hr : meth.sig.returnType = ret) (htr : l.stackTraces = false) (hX : va_X b L xs s s.heap ∧ b < s.heap.size ∧ ¬ GA G b) (hsz : ∀ q, GA G q → s.heap.size ≤ q) {K23 : Nat → Nat → Nat → Int32 → St → Nat → Nat → Prop} (hK23 : ∀ (a1 : Nat) (a2 : Nat) (a3 : Nat) (x4 : Int32) (σ : St) (k n : Nat), K23 a1 a2 a3 x4 σ k n → V p l e room_1 s m #[Value.ref b] below meth c (lw_Z below #[Value.ref b] s) G 0 σ0 601024 7293034 7 σ k n [(some a1, 12), (some a2, 13), (some a3, 23)] 23 [(0, va_rf (some b)), (1, va_rf (some a1)), (2, va_rf (some a2)), (3, va_rf (some a3)), (4, .int x4)] []) : ∀ (a1 : Nat) (a2 : Nat) (a3 : Nat) (x4 : Int32) (σ : St) (k n : Nat), w_L_law_617 L xs K23 a1 a2 a3 x4 σ k n → V p l e room_1 s m #[Value.ref b] below meth c (lw_Z below #[Value.ref b] s) G 0 σ0 601024 7293034 7 σ k n [(some a1, 12), (some a2, 13), (some a3, 23)] 617 [(0, va_rf (some b)), (1, va_rf (some a1)), (2, va_rf (some a2)), (3, va_rf (some a3)), (4, .int x4)] [] := by
  intro a1 a2 a3 x4 σ k n hw
  unfold w_L_law_617 at hw
  refine v_aload_n X 1 rfl (gD D_L_law_14 8 rfl) rfl ?_
  refine v_aload_n X 0 rfl (gD D_L_law_14 9 rfl) rfl ?_
  refine v_iload X 4 rfl (gD D_L_law_14 10 rfl) ?_
  refine v_iconst X 1 (gD D_L_law_14 11 rfl) (by decide) ?_
  refine v_iadd X (gD D_L_law_14 12 rfl) ?_
  obtain ⟨h199, hw⟩ := hw
  refine v_sld X hX h199 (gD D_L_law_14 13 rfl) ?_
  refine v_aload_n X 0 rfl (gD D_L_law_14 14 rfl) rfl ?_
  refine v_iload X 4 rfl (gD D_L_law_14 15 rfl) ?_
  refine v_iconst X 2 (gD D_L_law_14 16 rfl) (by decide) ?_
  refine v_iadd X (gD D_L_law_14 17 rfl) ?_
  obtain ⟨h200, hw⟩ := hw
  refine v_sld X hX h200 (gD D_L_law_14 18 rfl) ?_
  refine v_aload_n X 3 rfl (gD D_L_law_14 19 rfl) rfl ?_
  obtain ⟨k203, n204, k205, n206, h207, h208, hw⟩ := hw
  refine v_callW X (As := [va_rf (some a1), .int (xs (x4 + 1).toNatClampNeg), .int (xs (x4 + 2).toNatClampNeg), va_rf (some a3)]) (rest := []) (nA := 4) k203 n204 k205 n206 (fun ht => c_L_stock htr (ht.sub [0, 2] rfl) hw) (Or.inr rfl) lk_sRL_159 (by decide +kernel) rfl rfl (by decide) (by decide) (by decide) h207 h208 (gD D_L_law_14 20 rfl) (fun x201 s202 hq hx hf => ?_)
  replace hw := hq hx hf
  clear hq hx hf
  refine v_istore X [(5, .int x201), (0, va_rf (some b)), (1, va_rf (some a1)), (2, va_rf (some a2)), (3, va_rf (some a3)), (4, .int x4)] (gD D_L_law_15 0 rfl) (by decide) rfl ?_
  refine v_aload_n X 3 rfl (gD D_L_law_15 1 rfl) rfl ?_
  refine v_aload_n X 1 rfl (gD D_L_law_15 2 rfl) rfl ?_
  refine v_iload X 5 rfl (gD D_L_law_15 3 rfl) ?_
  refine v_iconst X 1 (gD D_L_law_15 4 rfl) (by decide) ?_
  refine v_iadd X (gD D_L_law_15 5 rfl) ?_
  obtain ⟨h209, hw⟩ := hw
  refine v_sld X hX h209 (gD D_L_law_15 6 rfl) ?_
  refine v_aload_n X 1 rfl (gD D_L_law_15 7 rfl) rfl ?_
  refine v_iload X 5 rfl (gD D_L_law_15 8 rfl) ?_
  refine v_iconst X 2 (gD D_L_law_15 9 rfl) (by decide) ?_
  refine v_iadd X (gD D_L_law_15 10 rfl) ?_
  obtain ⟨h210, hw⟩ := hw
  refine v_sld X hX h210 (gD D_L_law_15 11 rfl) ?_
  refine v_callVi X (As := [.int (xs (x4 + 1).toNatClampNeg), .int (xs (x4 + 2).toNatClampNeg)]) (rest := []) (nA := 2) 0 0 k205 n206 (fun ht => c_X12_stock htr (ht.sub [1] rfl) hw) (Or.inr rfl) 1 (κ := 13) rfl (by decide) (rfl : gCl[12]? = some (RX12, TX12, 65)) lk_vRL_161 (by decide +kernel) rfl rfl (by decide) (by decide) (by decide) rfl rfl (gD D_L_law_15 12 rfl) (fun x211 s212 hq hx hf => ?_)
  replace hw := hq hx hf
  clear hq hx hf
  refine v_istore X [(6, .int x211), (5, .int x201), (0, va_rf (some b)), (1, va_rf (some a1)), (2, va_rf (some a2)), (3, va_rf (some a3)), (4, .int x4)] (gD D_L_law_15 13 rfl) (by decide) rfl ?_
  refine v_aload_n X 4 rfl (gD D_L_law_15 14 rfl) rfl ?_
  refine v_callVi X (As := []) (rest := []) (nA := 0) 0 0 k205 n206 (fun ht => c_X12_thrown htr (ht.sub [1] rfl) hw) (Or.inr rfl) 1 (κ := 13) rfl (by decide) (rfl : gCl[12]? = some (RX12, TX12, 65)) lk_vRL_139 (by decide +kernel) rfl rfl (by decide) (by decide) (by decide) rfl rfl (gD D_L_law_15 15 rfl) (fun x213 s214 hq hx hf => ?_)
  replace hw := hq hx hf
  clear hq hx hf
  refine v_iload X 1 rfl (gD D_L_law_15 16 rfl) ?_
  refine v_icmp_eq X 665 (gD D_L_law_15 17 rfl) (by decide) (fun c215 => ?_) (fun c215 => ?_)
  · replace hw := hw.1 c215
    refine v_iload X 1 rfl (gD D_L_law_15 20 rfl) ?_
    refine v_if_ne X 682 (gD D_L_law_16 0 rfl) (by decide) (fun c216 => ?_) (fun c216 => ?_)
    · replace hw := hw.1 c216
      refine v_goto X 2730 (gD D_L_law_16 10 rfl) (by decide) ?_
      refine v_iinc X (x4 + 7) 6 rfl [(4, .int (x4 + 7)), (6, .int x211), (5, .int x201), (0, va_rf (some b)), (1, va_rf (some a1)), (2, va_rf (some a2)), (3, va_rf (some a3))] (gD D_L_law_80 3 rfl) rfl (by decide) rfl ?_
      refine v_goto X 23 (gD D_L_law_80 4 rfl) (by decide) ?_
      exact v_sub [0, 1, 2] [3, 4, 5, 6, 0] rfl rfl (hK23 a1 a2 a3 (x4 + 7) s214 k205 n206 hw)
    · replace hw := hw.2 c216
      refine v_aload_n X 5 rfl (gD D_L_law_16 1 rfl) rfl ?_
      refine v_iconst X 0 (gD D_L_law_16 2 rfl) (by decide) ?_
      obtain ⟨h217, hw⟩ := hw
      refine v_lald X 2 rfl h217 (gD D_L_law_16 3 rfl) ?_
      refine v_iload X 0 rfl (gD D_L_law_16 4 rfl) ?_
      refine v_i2l X (gD D_L_law_16 5 rfl) ?_
      refine v_lcmp X (gD D_L_law_16 6 rfl) ?_
      refine v_if_eq X 682 (gD D_L_law_16 7 rfl) (by decide) (fun c218 => ?_) (fun c218 => ?_)
      · replace hw := hw.1 c218
        refine v_goto X 2730 (gD D_L_law_16 10 rfl) (by decide) ?_
        refine v_iinc X (x4 + 7) 6 rfl [(4, .int (x4 + 7)), (6, .int x211), (5, .int x201), (0, va_rf (some b)), (1, va_rf (some a1)), (2, va_rf (some a2)), (3, va_rf (some a3))] (gD D_L_law_80 3 rfl) rfl (by decide) rfl ?_
        refine v_goto X 23 (gD D_L_law_80 4 rfl) (by decide) ?_
        exact v_sub [0, 1, 2] [3, 4, 5, 6, 0] rfl rfl (hK23 a1 a2 a3 (x4 + 7) s214 k205 n206 hw)
      · replace hw := hw.2 c218
        refine v_iconst X 0 (gD D_L_law_16 8 rfl) (by decide) ?_
        exact hw.elim
  · replace hw := hw.2 c215
    refine v_iconst X 0 (gD D_L_law_15 18 rfl) (by decide) ?_
    exact hw.elim
set_option maxRecDepth 100000 in
set_option maxHeartbeats 4000000 in
theorem t_L_law_685 {p : Program} {l : Launch} {e : Env} {s : State} {m : MethodId} {below : List Frame} {meth : Method} {c : Code} {G : GX} {σ0 : St} {b L : Nat} {xs : Nat → Int32} (X : VC p l room_1 s m #[Value.ref b] meth c G 11 601024 7293034 7 RL code) (hr : meth.sig.returnType = ret) (htr : l.stackTraces = false) (hX : va_X b L xs s s.heap ∧ b < s.heap.size ∧ ¬ GA G b) (hsz : ∀ q, GA G q → s.heap.size ≤ q) {K23 : Nat → Nat → Nat → Int32 → St → Nat → Nat → Prop} (hK23 : ∀ (a1 : Nat) (a2 : Nat) (a3 : Nat) (x4 : Int32) (σ : St) (k n : Nat), K23 a1 a2 a3 x4 σ k n → V p l e room_1 s m #[Value.ref b] below meth c (lw_Z below #[Value.ref b] s) G 0 σ0 601024 7293034 7 σ k n [(some a1, 12), (some a2, 13), (some a3, 23)] 23 [(0, va_rf (some b)), (1, va_rf (some a1)), (2, va_rf (some a2)), (3, va_rf (some a3)), (4, .int x4)] []) : ∀ (a1 : Nat) (a2 : Nat) (a3 : Nat) (x4 : Int32) (σ : St) (k n : Nat), w_L_law_685 L xs K23 a1 a2 a3 x4 σ k n → V p l e room_1 s m #[Value.ref b] below meth c (lw_Z below #[Value.ref b] s) G 0 σ0 601024 7293034 7 σ k n [(some a1, 12), (some a2, 13), (some a3, 23)] 685 [(0, va_rf (some b)), (1, va_rf (some a1)), (2, va_rf (some a2)), (3, va_rf (some a3)), (4, .int x4)] [] := by
  intro a1 a2 a3 x4 σ k n hw
  unfold w_L_law_685 at hw
  refine v_aload_n X 1 rfl (gD D_L_law_16 11 rfl) rfl ?_
  refine v_aload_n X 0 rfl (gD D_L_law_16 12 rfl) rfl ?_
  refine v_iload X 4 rfl (gD D_L_law_16 13 rfl) ?_
  refine v_iconst X 1 (gD D_L_law_16 14 rfl) (by decide) ?_
  refine v_iadd X (gD D_L_law_16 15 rfl) ?_
  obtain ⟨h219, hw⟩ := hw
  refine v_sld X hX h219 (gD D_L_law_16 16 rfl) ?_
  refine v_aload_n X 0 rfl (gD D_L_law_16 17 rfl) rfl ?_
  refine v_iload X 4 rfl (gD D_L_law_16 18 rfl) ?_
  refine v_iconst X 2 (gD D_L_law_16 19 rfl) (by decide) ?_
  refine v_iadd X (gD D_L_law_16 20 rfl) ?_
  obtain ⟨h220, hw⟩ := hw
  refine v_sld X hX h220 (gD D_L_law_17 0 rfl) ?_
  refine v_aload_n X 3 rfl (gD D_L_law_17 1 rfl) rfl ?_
  obtain ⟨k223, n224, k225, n226, h227, h228, hw⟩ := hw
  refine v_callW X (As := [va_rf (some a1), .int (xs (x4 + 1).toNatClampNeg), .int (xs (x4 + 2).toNatClampNeg), va_rf (some a3)]) (rest := []) (nA := 4) k223 n224 k225 n226 (fun ht => c_L_stockAnew htr (ht.sub [0, 2] rfl) hw) (Or.inr rfl) lk_sRL_162 (by decide +kernel) rfl rfl (by decide) (by decide) (by decide) h227 h228 (gD D_L_law_17 2 rfl) (fun x221 s222 hq hx hf => ?_)
  replace hw := hq hx hf
  clear hq hx hf
  refine v_istore X [(5, .int x221), (0, va_rf (some b)), (1, va_rf (some a1)), (2, va_rf (some a2)), (3, va_rf (some a3)), (4, .int x4)] (gD D_L_law_17 3 rfl) (by decide) rfl ?_
  refine v_aload_n X 3 rfl (gD D_L_law_17 4 rfl) rfl ?_
  refine v_aload_n X 1 rfl (gD D_L_law_17 5 rfl) rfl ?_
  refine v_iload X 5 rfl (gD D_L_law_17 6 rfl) ?_
  refine v_iconst X 1 (gD D_L_law_17 7 rfl) (by decide) ?_
  refine v_iadd X (gD D_L_law_17 8 rfl) ?_
  obtain ⟨h229, hw⟩ := hw
  refine v_sld X hX h229 (gD D_L_law_17 9 rfl) ?_
  refine v_aload_n X 1 rfl (gD D_L_law_17 10 rfl) rfl ?_
  refine v_iload X 5 rfl (gD D_L_law_17 11 rfl) ?_
  refine v_iconst X 2 (gD D_L_law_17 12 rfl) (by decide) ?_
  refine v_iadd X (gD D_L_law_17 13 rfl) ?_
  obtain ⟨h230, hw⟩ := hw
  refine v_sld X hX h230 (gD D_L_law_17 14 rfl) ?_
  refine v_callVi X (As := [.int (xs (x4 + 1).toNatClampNeg), .int (xs (x4 + 2).toNatClampNeg)]) (rest := []) (nA := 2) 0 0 k225 n226 (fun ht => c_X12_stockAnew htr (ht.sub [1] rfl) hw) (Or.inr rfl) 1 (κ := 13) rfl (by decide) (rfl : gCl[12]? = some (RX12, TX12, 65)) lk_vRL_164 (by decide +kernel) rfl rfl (by decide) (by decide) (by decide) rfl rfl (gD D_L_law_17 15 rfl) (fun x231 s232 hq hx hf => ?_)
  replace hw := hq hx hf
  clear hq hx hf
  refine v_istore X [(6, .int x231), (5, .int x221), (0, va_rf (some b)), (1, va_rf (some a1)), (2, va_rf (some a2)), (3, va_rf (some a3)), (4, .int x4)] (gD D_L_law_17 16 rfl) (by decide) rfl ?_
  refine v_aload_n X 4 rfl (gD D_L_law_17 17 rfl) rfl ?_
  refine v_callVi X (As := []) (rest := []) (nA := 0) 0 0 k225 n226 (fun ht => c_X12_thrown htr (ht.sub [1] rfl) hw) (Or.inr rfl) 1 (κ := 13) rfl (by decide) (rfl : gCl[12]? = some (RX12, TX12, 65)) lk_vRL_139 (by decide +kernel) rfl rfl (by decide) (by decide) (by decide) rfl rfl (gD D_L_law_17 18 rfl) (fun x233 s234 hq hx hf => ?_)
  replace hw := hq hx hf
  clear hq hx hf
  refine v_iload X 1 rfl (gD D_L_law_17 19 rfl) ?_
  refine v_icmp_eq X 733 (gD D_L_law_17 20 rfl) (by decide) (fun c235 => ?_) (fun c235 => ?_)
  · replace hw := hw.1 c235
    refine v_iload X 1 rfl (gD D_L_law_18 2 rfl) ?_
    refine v_if_ne X 750 (gD D_L_law_18 3 rfl) (by decide) (fun c236 => ?_) (fun c236 => ?_)
    · replace hw := hw.1 c236
      refine v_goto X 2730 (gD D_L_law_18 13 rfl) (by decide) ?_
      refine v_iinc X (x4 + 7) 6 rfl [(4, .int (x4 + 7)), (6, .int x231), (5, .int x221), (0, va_rf (some b)), (1, va_rf (some a1)), (2, va_rf (some a2)), (3, va_rf (some a3))] (gD D_L_law_80 3 rfl) rfl (by decide) rfl ?_
      refine v_goto X 23 (gD D_L_law_80 4 rfl) (by decide) ?_
      exact v_sub [0, 1, 2] [3, 4, 5, 6, 0] rfl rfl (hK23 a1 a2 a3 (x4 + 7) s234 k225 n226 hw)
    · replace hw := hw.2 c236
      refine v_aload_n X 5 rfl (gD D_L_law_18 4 rfl) rfl ?_
      refine v_iconst X 0 (gD D_L_law_18 5 rfl) (by decide) ?_
      obtain ⟨h237, hw⟩ := hw
      refine v_lald X 2 rfl h237 (gD D_L_law_18 6 rfl) ?_
      refine v_iload X 0 rfl (gD D_L_law_18 7 rfl) ?_
      refine v_i2l X (gD D_L_law_18 8 rfl) ?_
      refine v_lcmp X (gD D_L_law_18 9 rfl) ?_
      refine v_if_eq X 750 (gD D_L_law_18 10 rfl) (by decide) (fun c238 => ?_) (fun c238 => ?_)
      · replace hw := hw.1 c238
        refine v_goto X 2730 (gD D_L_law_18 13 rfl) (by decide) ?_
        refine v_iinc X (x4 + 7) 6 rfl [(4, .int (x4 + 7)), (6, .int x231), (5, .int x221), (0, va_rf (some b)), (1, va_rf (some a1)), (2, va_rf (some a2)), (3, va_rf (some a3))] (gD D_L_law_80 3 rfl) rfl (by decide) rfl ?_
        refine v_goto X 23 (gD D_L_law_80 4 rfl) (by decide) ?_
        exact v_sub [0, 1, 2] [3, 4, 5, 6, 0] rfl rfl (hK23 a1 a2 a3 (x4 + 7) s234 k225 n226 hw)
      · replace hw := hw.2 c238
        refine v_iconst X 0 (gD D_L_law_18 11 rfl) (by decide) ?_
        exact hw.elim
  · replace hw := hw.2 c235
    refine v_iconst X 0 (gD D_L_law_18 0 rfl) (by decide) ?_
    exact hw.elim
set_option maxRecDepth 100000 in
set_option maxHeartbeats 4000000 in
theorem t_L_law_753 {p : Program} {l : Launch} {e : Env} {s : State} {m : MethodId} {below : List Frame} {meth : Method} {c : Code} {G : GX} {σ0 : St} {b L : Nat} {xs : Nat → Int32} (X : VC p l room_1 s m #[Value.ref b] meth c G 11 601024 7293034 7 RL code) (hr : meth.sig.returnType = ret) (htr : l.stackTraces = false) (hX : va_X b L xs s s.heap ∧ b < s.heap.size ∧ ¬ GA G b) (hsz : ∀ q, GA G q → s.heap.size ≤ q) {K23 : Nat → Nat → Nat → Int32 → St → Nat → Nat → Prop} (hK23 : ∀ (a1 : Nat) (a2 : Nat) (a3 : Nat) (x4 : Int32) (σ : St) (k n : Nat), K23 a1 a2 a3 x4 σ k n → V p l e room_1 s m #[Value.ref b] below meth c (lw_Z below #[Value.ref b] s) G 0 σ0 601024 7293034 7 σ k n [(some a1, 12), (some a2, 13), (some a3, 23)] 23 [(0, va_rf (some b)), (1, va_rf (some a1)), (2, va_rf (some a2)), (3, va_rf (some a3)), (4, .int x4)] []) : ∀ (a1 : Nat) (a2 : Nat) (a3 : Nat) (x4 : Int32) (σ : St) (k n : Nat), w_L_law_753 L xs K23 a1 a2 a3 x4 σ k n → V p l e room_1 s m #[Value.ref b] below meth c (lw_Z below #[Value.ref b] s) G 0 σ0 601024 7293034 7 σ k n [(some a1, 12), (some a2, 13), (some a3, 23)] 753 [(0, va_rf (some b)), (1, va_rf (some a1)), (2, va_rf (some a2)), (3, va_rf (some a3)), (4, .int x4)] [] := by
  intro a1 a2 a3 x4 σ k n hw
  unfold w_L_law_753 at hw
  refine v_aload_n X 1 rfl (gD D_L_law_18 14 rfl) rfl ?_
  refine v_aload_n X 0 rfl (gD D_L_law_18 15 rfl) rfl ?_
  refine v_iload X 4 rfl (gD D_L_law_18 16 rfl) ?_
  refine v_iconst X 1 (gD D_L_law_18 17 rfl) (by decide) ?_
  refine v_iadd X (gD D_L_law_18 18 rfl) ?_
  obtain ⟨h239, hw⟩ := hw
  refine v_sld X hX h239 (gD D_L_law_18 19 rfl) ?_
  refine v_aload_n X 0 rfl (gD D_L_law_18 20 rfl) rfl ?_
  refine v_iload X 4 rfl (gD D_L_law_19 0 rfl) ?_
  refine v_iconst X 2 (gD D_L_law_19 1 rfl) (by decide) ?_
  refine v_iadd X (gD D_L_law_19 2 rfl) ?_
  obtain ⟨h240, hw⟩ := hw
  refine v_sld X hX h240 (gD D_L_law_19 3 rfl) ?_
  refine v_aload_n X 3 rfl (gD D_L_law_19 4 rfl) rfl ?_
  obtain ⟨k243, n244, k245, n246, h247, h248, hw⟩ := hw
  refine v_callW X (As := [va_rf (some a1), .int (xs (x4 + 1).toNatClampNeg), .int (xs (x4 + 2).toNatClampNeg), va_rf (some a3)]) (rest := []) (nA := 4) k243 n244 k245 n246 (fun ht => c_L_free htr (ht.sub [0, 2] rfl) hw) (Or.inr rfl) lk_sRL_165 (by decide +kernel) rfl rfl (by decide) (by decide) (by decide) h247 h248 (gD D_L_law_19 5 rfl) (fun x241 s242 hq hx hf => ?_)
  replace hw := hq hx hf
  clear hq hx hf
  refine v_istore X [(5, .int x241), (0, va_rf (some b)), (1, va_rf (some a1)), (2, va_rf (some a2)), (3, va_rf (some a3)), (4, .int x4)] (gD D_L_law_19 6 rfl) (by decide) rfl ?_
  refine v_aload_n X 3 rfl (gD D_L_law_19 7 rfl) rfl ?_
  refine v_aload_n X 1 rfl (gD D_L_law_19 8 rfl) rfl ?_
  refine v_iload X 5 rfl (gD D_L_law_19 9 rfl) ?_
  refine v_iconst X 1 (gD D_L_law_19 10 rfl) (by decide) ?_
  refine v_iadd X (gD D_L_law_19 11 rfl) ?_
  obtain ⟨h249, hw⟩ := hw
  refine v_sld X hX h249 (gD D_L_law_19 12 rfl) ?_
  refine v_aload_n X 1 rfl (gD D_L_law_19 13 rfl) rfl ?_
  refine v_iload X 5 rfl (gD D_L_law_19 14 rfl) ?_
  refine v_iconst X 2 (gD D_L_law_19 15 rfl) (by decide) ?_
  refine v_iadd X (gD D_L_law_19 16 rfl) ?_
  obtain ⟨h250, hw⟩ := hw
  refine v_sld X hX h250 (gD D_L_law_19 17 rfl) ?_
  refine v_callVi X (As := [.int (xs (x4 + 1).toNatClampNeg), .int (xs (x4 + 2).toNatClampNeg)]) (rest := []) (nA := 2) 0 0 k245 n246 (fun ht => c_X12_free htr (ht.sub [1] rfl) hw) (Or.inr rfl) 1 (κ := 13) rfl (by decide) (rfl : gCl[12]? = some (RX12, TX12, 65)) lk_vRL_167 (by decide +kernel) rfl rfl (by decide) (by decide) (by decide) rfl rfl (gD D_L_law_19 18 rfl) (fun x251 s252 hq hx hf => ?_)
  replace hw := hq hx hf
  clear hq hx hf
  refine v_istore X [(6, .int x251), (5, .int x241), (0, va_rf (some b)), (1, va_rf (some a1)), (2, va_rf (some a2)), (3, va_rf (some a3)), (4, .int x4)] (gD D_L_law_19 19 rfl) (by decide) rfl ?_
  refine v_aload_n X 4 rfl (gD D_L_law_19 20 rfl) rfl ?_
  refine v_callVi X (As := []) (rest := []) (nA := 0) 0 0 k245 n246 (fun ht => c_X12_thrown htr (ht.sub [1] rfl) hw) (Or.inr rfl) 1 (κ := 13) rfl (by decide) (rfl : gCl[12]? = some (RX12, TX12, 65)) lk_vRL_139 (by decide +kernel) rfl rfl (by decide) (by decide) (by decide) rfl rfl (gD D_L_law_20 0 rfl) (fun x253 s254 hq hx hf => ?_)
  replace hw := hq hx hf
  clear hq hx hf
  refine v_iload X 1 rfl (gD D_L_law_20 1 rfl) ?_
  refine v_icmp_eq X 801 (gD D_L_law_20 2 rfl) (by decide) (fun c255 => ?_) (fun c255 => ?_)
  · replace hw := hw.1 c255
    refine v_iload X 1 rfl (gD D_L_law_20 5 rfl) ?_
    refine v_if_ne X 818 (gD D_L_law_20 6 rfl) (by decide) (fun c256 => ?_) (fun c256 => ?_)
    · replace hw := hw.1 c256
      refine v_goto X 2730 (gD D_L_law_20 16 rfl) (by decide) ?_
      refine v_iinc X (x4 + 7) 6 rfl [(4, .int (x4 + 7)), (6, .int x251), (5, .int x241), (0, va_rf (some b)), (1, va_rf (some a1)), (2, va_rf (some a2)), (3, va_rf (some a3))] (gD D_L_law_80 3 rfl) rfl (by decide) rfl ?_
      refine v_goto X 23 (gD D_L_law_80 4 rfl) (by decide) ?_
      exact v_sub [0, 1, 2] [3, 4, 5, 6, 0] rfl rfl (hK23 a1 a2 a3 (x4 + 7) s254 k245 n246 hw)
    · replace hw := hw.2 c256
      refine v_aload_n X 5 rfl (gD D_L_law_20 7 rfl) rfl ?_
      refine v_iconst X 0 (gD D_L_law_20 8 rfl) (by decide) ?_
      obtain ⟨h257, hw⟩ := hw
      refine v_lald X 2 rfl h257 (gD D_L_law_20 9 rfl) ?_
      refine v_iload X 0 rfl (gD D_L_law_20 10 rfl) ?_
      refine v_i2l X (gD D_L_law_20 11 rfl) ?_
      refine v_lcmp X (gD D_L_law_20 12 rfl) ?_
      refine v_if_eq X 818 (gD D_L_law_20 13 rfl) (by decide) (fun c258 => ?_) (fun c258 => ?_)
      · replace hw := hw.1 c258
        refine v_goto X 2730 (gD D_L_law_20 16 rfl) (by decide) ?_
        refine v_iinc X (x4 + 7) 6 rfl [(4, .int (x4 + 7)), (6, .int x251), (5, .int x241), (0, va_rf (some b)), (1, va_rf (some a1)), (2, va_rf (some a2)), (3, va_rf (some a3))] (gD D_L_law_80 3 rfl) rfl (by decide) rfl ?_
        refine v_goto X 23 (gD D_L_law_80 4 rfl) (by decide) ?_
        exact v_sub [0, 1, 2] [3, 4, 5, 6, 0] rfl rfl (hK23 a1 a2 a3 (x4 + 7) s254 k245 n246 hw)
      · replace hw := hw.2 c258
        refine v_iconst X 0 (gD D_L_law_20 14 rfl) (by decide) ?_
        exact hw.elim
  · replace hw := hw.2 c255
    refine v_iconst X 0 (gD D_L_law_20 3 rfl) (by decide) ?_
    exact hw.elim
set_option maxRecDepth 100000 in
set_option maxHeartbeats 4000000 in
theorem t_L_law_821 {p : Program} {l : Launch} {e : Env} {s : State} {m : MethodId} {below : List Frame} {meth : Method} {c : Code} {G : GX} {σ0 : St} {b L : Nat} {xs : Nat → Int32} (X : VC p l room_1 s m #[Value.ref b] meth c G 11 601024 7293034 7 RL code) (hr : meth.sig.returnType = ret) (htr : l.stackTraces = false) (hX : va_X b L xs s s.heap ∧ b < s.heap.size ∧ ¬ GA G b) (hsz : ∀ q, GA G q → s.heap.size ≤ q) {K23 : Nat → Nat → Nat → Int32 → St → Nat → Nat → Prop} (hK23 : ∀ (a1 : Nat) (a2 : Nat) (a3 : Nat) (x4 : Int32) (σ : St) (k n : Nat), K23 a1 a2 a3 x4 σ k n → V p l e room_1 s m #[Value.ref b] below meth c (lw_Z below #[Value.ref b] s) G 0 σ0 601024 7293034 7 σ k n [(some a1, 12), (some a2, 13), (some a3, 23)] 23 [(0, va_rf (some b)), (1, va_rf (some a1)), (2, va_rf (some a2)), (3, va_rf (some a3)), (4, .int x4)] []) : ∀ (a1 : Nat) (a2 : Nat) (a3 : Nat) (x4 : Int32) (σ : St) (k n : Nat), w_L_law_821 L xs K23 a1 a2 a3 x4 σ k n → V p l e room_1 s m #[Value.ref b] below meth c (lw_Z below #[Value.ref b] s) G 0 σ0 601024 7293034 7 σ k n [(some a1, 12), (some a2, 13), (some a3, 23)] 821 [(0, va_rf (some b)), (1, va_rf (some a1)), (2, va_rf (some a2)), (3, va_rf (some a3)), (4, .int x4)] [] := by
  intro a1 a2 a3 x4 σ k n hw
  unfold w_L_law_821 at hw
  refine v_aload_n X 1 rfl (gD D_L_law_20 17 rfl) rfl ?_
  refine v_aload_n X 0 rfl (gD D_L_law_20 18 rfl) rfl ?_
  refine v_iload X 4 rfl (gD D_L_law_20 19 rfl) ?_
  refine v_iconst X 1 (gD D_L_law_20 20 rfl) (by decide) ?_
  refine v_iadd X (gD D_L_law_21 0 rfl) ?_
  obtain ⟨h259, hw⟩ := hw
  refine v_sld X hX h259 (gD D_L_law_21 1 rfl) ?_
  refine v_aload_n X 3 rfl (gD D_L_law_21 2 rfl) rfl ?_
  obtain ⟨k262, n263, k264, n265, h266, h267, hw⟩ := hw
  refine v_callW X (As := [va_rf (some a1), .int (xs (x4 + 1).toNatClampNeg), va_rf (some a3)]) (rest := []) (nA := 3) k262 n263 k264 n265 (fun ht => c_L_room htr (ht.sub [0, 2] rfl) hw) (Or.inr rfl) lk_sRL_168 (by decide +kernel) rfl rfl (by decide) (by decide) (by decide) h266 h267 (gD D_L_law_21 3 rfl) (fun x260 s261 hq hx hf => ?_)
  replace hw := hq hx hf
  clear hq hx hf
  refine v_istore X [(5, .int x260), (0, va_rf (some b)), (1, va_rf (some a1)), (2, va_rf (some a2)), (3, va_rf (some a3)), (4, .int x4)] (gD D_L_law_21 4 rfl) (by decide) rfl ?_
  refine v_aload_n X 3 rfl (gD D_L_law_21 5 rfl) rfl ?_
  refine v_aload_n X 1 rfl (gD D_L_law_21 6 rfl) rfl ?_
  refine v_iload X 5 rfl (gD D_L_law_21 7 rfl) ?_
  refine v_iconst X 1 (gD D_L_law_21 8 rfl) (by decide) ?_
  refine v_iadd X (gD D_L_law_21 9 rfl) ?_
  obtain ⟨h268, hw⟩ := hw
  refine v_sld X hX h268 (gD D_L_law_21 10 rfl) ?_
  refine v_callVi X (As := [.int (xs (x4 + 1).toNatClampNeg)]) (rest := []) (nA := 1) 0 0 k264 n265 (fun ht => c_X12_room htr (ht.sub [1] rfl) hw) (Or.inr rfl) 1 (κ := 13) rfl (by decide) (rfl : gCl[12]? = some (RX12, TX12, 65)) lk_vRL_171 (by decide +kernel) rfl rfl (by decide) (by decide) (by decide) rfl rfl (gD D_L_law_21 11 rfl) (fun x269 s270 hq hx hf => ?_)
  replace hw := hq hx hf
  clear hq hx hf
  refine v_istore X [(6, .int x269), (5, .int x260), (0, va_rf (some b)), (1, va_rf (some a1)), (2, va_rf (some a2)), (3, va_rf (some a3)), (4, .int x4)] (gD D_L_law_21 12 rfl) (by decide) rfl ?_
  refine v_aload_n X 4 rfl (gD D_L_law_21 13 rfl) rfl ?_
  refine v_callVi X (As := []) (rest := []) (nA := 0) 0 0 k264 n265 (fun ht => c_X12_thrown htr (ht.sub [1] rfl) hw) (Or.inr rfl) 1 (κ := 13) rfl (by decide) (rfl : gCl[12]? = some (RX12, TX12, 65)) lk_vRL_139 (by decide +kernel) rfl rfl (by decide) (by decide) (by decide) rfl rfl (gD D_L_law_21 14 rfl) (fun x271 s272 hq hx hf => ?_)
  replace hw := hq hx hf
  clear hq hx hf
  refine v_iload X 1 rfl (gD D_L_law_21 15 rfl) ?_
  refine v_icmp_eq X 857 (gD D_L_law_21 16 rfl) (by decide) (fun c273 => ?_) (fun c273 => ?_)
  · replace hw := hw.1 c273
    refine v_iload X 1 rfl (gD D_L_law_21 19 rfl) ?_
    refine v_if_ne X 874 (gD D_L_law_21 20 rfl) (by decide) (fun c274 => ?_) (fun c274 => ?_)
    · replace hw := hw.1 c274
      refine v_goto X 2730 (gD D_L_law_22 9 rfl) (by decide) ?_
      refine v_iinc X (x4 + 7) 6 rfl [(4, .int (x4 + 7)), (6, .int x269), (5, .int x260), (0, va_rf (some b)), (1, va_rf (some a1)), (2, va_rf (some a2)), (3, va_rf (some a3))] (gD D_L_law_80 3 rfl) rfl (by decide) rfl ?_
      refine v_goto X 23 (gD D_L_law_80 4 rfl) (by decide) ?_
      exact v_sub [0, 1, 2] [3, 4, 5, 6, 0] rfl rfl (hK23 a1 a2 a3 (x4 + 7) s272 k264 n265 hw)
    · replace hw := hw.2 c274
      refine v_aload_n X 5 rfl (gD D_L_law_22 0 rfl) rfl ?_
      refine v_iconst X 0 (gD D_L_law_22 1 rfl) (by decide) ?_
      obtain ⟨h275, hw⟩ := hw
      refine v_lald X 2 rfl h275 (gD D_L_law_22 2 rfl) ?_
      refine v_iload X 0 rfl (gD D_L_law_22 3 rfl) ?_
      refine v_i2l X (gD D_L_law_22 4 rfl) ?_
      refine v_lcmp X (gD D_L_law_22 5 rfl) ?_
      refine v_if_eq X 874 (gD D_L_law_22 6 rfl) (by decide) (fun c276 => ?_) (fun c276 => ?_)
      · replace hw := hw.1 c276
        refine v_goto X 2730 (gD D_L_law_22 9 rfl) (by decide) ?_
        refine v_iinc X (x4 + 7) 6 rfl [(4, .int (x4 + 7)), (6, .int x269), (5, .int x260), (0, va_rf (some b)), (1, va_rf (some a1)), (2, va_rf (some a2)), (3, va_rf (some a3))] (gD D_L_law_80 3 rfl) rfl (by decide) rfl ?_
        refine v_goto X 23 (gD D_L_law_80 4 rfl) (by decide) ?_
        exact v_sub [0, 1, 2] [3, 4, 5, 6, 0] rfl rfl (hK23 a1 a2 a3 (x4 + 7) s272 k264 n265 hw)
      · replace hw := hw.2 c276
        refine v_iconst X 0 (gD D_L_law_22 7 rfl) (by decide) ?_
        exact hw.elim
  · replace hw := hw.2 c273
    refine v_iconst X 0 (gD D_L_law_21 17 rfl) (by decide) ?_
    exact hw.elim
set_option maxRecDepth 100000 in
set_option maxHeartbeats 4000000 in
theorem t_L_law_877 {p : Program} {l : Launch} {e : Env} {s : State} {m : MethodId} {below : List Frame} {meth : Method} {c : Code} {G : GX} {σ0 : St} {b L : Nat} {xs : Nat → Int32} (X : VC p l room_1 s m #[Value.ref b] meth c G 11 601024 7293034 7 RL code) (hr : meth.sig.returnType = ret) (htr : l.stackTraces = false) (hX : va_X b L xs s s.heap ∧ b < s.heap.size ∧ ¬ GA G b) (hsz : ∀ q, GA G q → s.heap.size ≤ q) {K23 : Nat → Nat → Nat → Int32 → St → Nat → Nat → Prop} (hK23 : ∀ (a1 : Nat) (a2 : Nat) (a3 : Nat) (x4 : Int32) (σ : St) (k n : Nat), K23 a1 a2 a3 x4 σ k n → V p l e room_1 s m #[Value.ref b] below meth c (lw_Z below #[Value.ref b] s) G 0 σ0 601024 7293034 7 σ k n [(some a1, 12), (some a2, 13), (some a3, 23)] 23 [(0, va_rf (some b)), (1, va_rf (some a1)), (2, va_rf (some a2)), (3, va_rf (some a3)), (4, .int x4)] []) : ∀ (a1 : Nat) (a2 : Nat) (a3 : Nat) (x4 : Int32) (σ : St) (k n : Nat), w_L_law_877 L xs K23 a1 a2 a3 x4 σ k n → V p l e room_1 s m #[Value.ref b] below meth c (lw_Z below #[Value.ref b] s) G 0 σ0 601024 7293034 7 σ k n [(some a1, 12), (some a2, 13), (some a3, 23)] 877 [(0, va_rf (some b)), (1, va_rf (some a1)), (2, va_rf (some a2)), (3, va_rf (some a3)), (4, .int x4)] [] := by
  intro a1 a2 a3 x4 σ k n hw
  unfold w_L_law_877 at hw
  refine v_aload_n X 1 rfl (gD D_L_law_22 10 rfl) rfl ?_
  refine v_aload_n X 0 rfl (gD D_L_law_22 11 rfl) rfl ?_
  refine v_iload X 4 rfl (gD D_L_law_22 12 rfl) ?_
  refine v_iconst X 1 (gD D_L_law_22 13 rfl) (by decide) ?_
  refine v_iadd X (gD D_L_law_22 14 rfl) ?_
  obtain ⟨h277, hw⟩ := hw
  refine v_sld X hX h277 (gD D_L_law_22 15 rfl) ?_
  refine v_aload_n X 0 rfl (gD D_L_law_22 16 rfl) rfl ?_
  refine v_iload X 4 rfl (gD D_L_law_22 17 rfl) ?_
  refine v_iconst X 2 (gD D_L_law_22 18 rfl) (by decide) ?_
  refine v_iadd X (gD D_L_law_22 19 rfl) ?_
  obtain ⟨h278, hw⟩ := hw
  refine v_sld X hX h278 (gD D_L_law_22 20 rfl) ?_
  refine v_aload_n X 3 rfl (gD D_L_law_23 0 rfl) rfl ?_
  obtain ⟨k281, n282, k283, n284, h285, h286, hw⟩ := hw
  refine v_callW X (As := [va_rf (some a1), .int (xs (x4 + 1).toNatClampNeg), .int (xs (x4 + 2).toNatClampNeg), va_rf (some a3)]) (rest := []) (nA := 4) k281 n282 k283 n284 (fun ht => c_L_notice htr (ht.sub [0, 2] rfl) hw) (Or.inr rfl) lk_sRL_172 (by decide +kernel) rfl rfl (by decide) (by decide) (by decide) h285 h286 (gD D_L_law_23 1 rfl) (fun x279 s280 hq hx hf => ?_)
  replace hw := hq hx hf
  clear hq hx hf
  refine v_istore X [(5, .int x279), (0, va_rf (some b)), (1, va_rf (some a1)), (2, va_rf (some a2)), (3, va_rf (some a3)), (4, .int x4)] (gD D_L_law_23 2 rfl) (by decide) rfl ?_
  refine v_aload_n X 3 rfl (gD D_L_law_23 3 rfl) rfl ?_
  refine v_aload_n X 1 rfl (gD D_L_law_23 4 rfl) rfl ?_
  refine v_iload X 5 rfl (gD D_L_law_23 5 rfl) ?_
  refine v_iconst X 1 (gD D_L_law_23 6 rfl) (by decide) ?_
  refine v_iadd X (gD D_L_law_23 7 rfl) ?_
  obtain ⟨h287, hw⟩ := hw
  refine v_sld X hX h287 (gD D_L_law_23 8 rfl) ?_
  refine v_aload_n X 1 rfl (gD D_L_law_23 9 rfl) rfl ?_
  refine v_iload X 5 rfl (gD D_L_law_23 10 rfl) ?_
  refine v_iconst X 2 (gD D_L_law_23 11 rfl) (by decide) ?_
  refine v_iadd X (gD D_L_law_23 12 rfl) ?_
  obtain ⟨h288, hw⟩ := hw
  refine v_sld X hX h288 (gD D_L_law_23 13 rfl) ?_
  refine v_callVi X (As := [.int (xs (x4 + 1).toNatClampNeg), .int (xs (x4 + 2).toNatClampNeg)]) (rest := []) (nA := 2) 0 0 k283 n284 (fun ht => c_X12_notice htr (ht.sub [1] rfl) hw) (Or.inr rfl) 1 (κ := 13) rfl (by decide) (rfl : gCl[12]? = some (RX12, TX12, 65)) lk_vRL_174 (by decide +kernel) rfl rfl (by decide) (by decide) (by decide) rfl rfl (gD D_L_law_23 14 rfl) (fun x289 s290 hq hx hf => ?_)
  replace hw := hq hx hf
  clear hq hx hf
  refine v_istore X [(6, .int x289), (5, .int x279), (0, va_rf (some b)), (1, va_rf (some a1)), (2, va_rf (some a2)), (3, va_rf (some a3)), (4, .int x4)] (gD D_L_law_23 15 rfl) (by decide) rfl ?_
  refine v_aload_n X 4 rfl (gD D_L_law_23 16 rfl) rfl ?_
  refine v_callVi X (As := []) (rest := []) (nA := 0) 0 0 k283 n284 (fun ht => c_X12_thrown htr (ht.sub [1] rfl) hw) (Or.inr rfl) 1 (κ := 13) rfl (by decide) (rfl : gCl[12]? = some (RX12, TX12, 65)) lk_vRL_139 (by decide +kernel) rfl rfl (by decide) (by decide) (by decide) rfl rfl (gD D_L_law_23 17 rfl) (fun x291 s292 hq hx hf => ?_)
  replace hw := hq hx hf
  clear hq hx hf
  refine v_iload X 1 rfl (gD D_L_law_23 18 rfl) ?_
  refine v_icmp_eq X 925 (gD D_L_law_23 19 rfl) (by decide) (fun c293 => ?_) (fun c293 => ?_)
  · replace hw := hw.1 c293
    refine v_iload X 1 rfl (gD D_L_law_24 1 rfl) ?_
    refine v_if_ne X 942 (gD D_L_law_24 2 rfl) (by decide) (fun c294 => ?_) (fun c294 => ?_)
    · replace hw := hw.1 c294
      refine v_goto X 2730 (gD D_L_law_24 12 rfl) (by decide) ?_
      refine v_iinc X (x4 + 7) 6 rfl [(4, .int (x4 + 7)), (6, .int x289), (5, .int x279), (0, va_rf (some b)), (1, va_rf (some a1)), (2, va_rf (some a2)), (3, va_rf (some a3))] (gD D_L_law_80 3 rfl) rfl (by decide) rfl ?_
      refine v_goto X 23 (gD D_L_law_80 4 rfl) (by decide) ?_
      exact v_sub [0, 1, 2] [3, 4, 5, 6, 0] rfl rfl (hK23 a1 a2 a3 (x4 + 7) s292 k283 n284 hw)
    · replace hw := hw.2 c294
      refine v_aload_n X 5 rfl (gD D_L_law_24 3 rfl) rfl ?_
      refine v_iconst X 0 (gD D_L_law_24 4 rfl) (by decide) ?_
      obtain ⟨h295, hw⟩ := hw
      refine v_lald X 2 rfl h295 (gD D_L_law_24 5 rfl) ?_
      refine v_iload X 0 rfl (gD D_L_law_24 6 rfl) ?_
      refine v_i2l X (gD D_L_law_24 7 rfl) ?_
      refine v_lcmp X (gD D_L_law_24 8 rfl) ?_
      refine v_if_eq X 942 (gD D_L_law_24 9 rfl) (by decide) (fun c296 => ?_) (fun c296 => ?_)
      · replace hw := hw.1 c296
        refine v_goto X 2730 (gD D_L_law_24 12 rfl) (by decide) ?_
        refine v_iinc X (x4 + 7) 6 rfl [(4, .int (x4 + 7)), (6, .int x289), (5, .int x279), (0, va_rf (some b)), (1, va_rf (some a1)), (2, va_rf (some a2)), (3, va_rf (some a3))] (gD D_L_law_80 3 rfl) rfl (by decide) rfl ?_
        refine v_goto X 23 (gD D_L_law_80 4 rfl) (by decide) ?_
        exact v_sub [0, 1, 2] [3, 4, 5, 6, 0] rfl rfl (hK23 a1 a2 a3 (x4 + 7) s292 k283 n284 hw)
      · replace hw := hw.2 c296
        refine v_iconst X 0 (gD D_L_law_24 10 rfl) (by decide) ?_
        exact hw.elim
  · replace hw := hw.2 c293
    refine v_iconst X 0 (gD D_L_law_23 20 rfl) (by decide) ?_
    exact hw.elim
set_option maxRecDepth 100000 in
set_option maxHeartbeats 4000000 in
theorem t_L_law_945 {p : Program} {l : Launch} {e : Env} {s : State} {m : MethodId} {below : List Frame} {meth : Method} {c : Code} {G : GX} {σ0 : St} {b L : Nat} {xs : Nat → Int32} (X : VC p l room_1 s m #[Value.ref b] meth c G 11 601024 7293034 7 RL code) (hr : meth.sig.returnType = ret) (htr : l.stackTraces = false) (hX : va_X b L xs s s.heap ∧ b < s.heap.size ∧ ¬ GA G b) (hsz : ∀ q, GA G q → s.heap.size ≤ q) {K23 : Nat → Nat → Nat → Int32 → St → Nat → Nat → Prop} (hK23 : ∀ (a1 : Nat) (a2 : Nat) (a3 : Nat) (x4 : Int32) (σ : St) (k n : Nat), K23 a1 a2 a3 x4 σ k n → V p l e room_1 s m #[Value.ref b] below meth c (lw_Z below #[Value.ref b] s) G 0 σ0 601024 7293034 7 σ k n [(some a1, 12), (some a2, 13), (some a3, 23)] 23 [(0, va_rf (some b)), (1, va_rf (some a1)), (2, va_rf (some a2)), (3, va_rf (some a3)), (4, .int x4)] []) : ∀ (a1 : Nat) (a2 : Nat) (a3 : Nat) (x4 : Int32) (σ : St) (k n : Nat), w_L_law_945 L xs K23 a1 a2 a3 x4 σ k n → V p l e room_1 s m #[Value.ref b] below meth c (lw_Z below #[Value.ref b] s) G 0 σ0 601024 7293034 7 σ k n [(some a1, 12), (some a2, 13), (some a3, 23)] 945 [(0, va_rf (some b)), (1, va_rf (some a1)), (2, va_rf (some a2)), (3, va_rf (some a3)), (4, .int x4)] [] := by
  intro a1 a2 a3 x4 σ k n hw
  unfold w_L_law_945 at hw
  refine v_aload_n X 1 rfl (gD D_L_law_24 13 rfl) rfl ?_
  refine v_aload_n X 0 rfl (gD D_L_law_24 14 rfl) rfl ?_
  refine v_iload X 4 rfl (gD D_L_law_24 15 rfl) ?_
  refine v_iconst X 1 (gD D_L_law_24 16 rfl) (by decide) ?_
  refine v_iadd X (gD D_L_law_24 17 rfl) ?_
  obtain ⟨h297, hw⟩ := hw
  refine v_sld X hX h297 (gD D_L_law_24 18 rfl) ?_
  refine v_aload_n X 0 rfl (gD D_L_law_24 19 rfl) rfl ?_
  refine v_iload X 4 rfl (gD D_L_law_24 20 rfl) ?_
  refine v_iconst X 2 (gD D_L_law_25 0 rfl) (by decide) ?_
  refine v_iadd X (gD D_L_law_25 1 rfl) ?_
  obtain ⟨h298, hw⟩ := hw
  refine v_sld X hX h298 (gD D_L_law_25 2 rfl) ?_
  refine v_aload_n X 0 rfl (gD D_L_law_25 3 rfl) rfl ?_
  refine v_iload X 4 rfl (gD D_L_law_25 4 rfl) ?_
  refine v_iconst X 3 (gD D_L_law_25 5 rfl) (by decide) ?_
  refine v_iadd X (gD D_L_law_25 6 rfl) ?_
  obtain ⟨h299, hw⟩ := hw
  refine v_sld X hX h299 (gD D_L_law_25 7 rfl) ?_
  refine v_aload_n X 3 rfl (gD D_L_law_25 8 rfl) rfl ?_
  obtain ⟨k302, n303, k304, n305, h306, h307, hw⟩ := hw
  refine v_callW X (As := [va_rf (some a1), .int (xs (x4 + 1).toNatClampNeg), .int (xs (x4 + 2).toNatClampNeg), .int (xs (x4 + 3).toNatClampNeg), va_rf (some a3)]) (rest := []) (nA := 5) k302 n303 k304 n305 (fun ht => c_L_receive htr (ht.sub [0, 2] rfl) hw) (Or.inr rfl) lk_sRL_175 (by decide +kernel) rfl rfl (by decide) (by decide) (by decide) h306 h307 (gD D_L_law_25 9 rfl) (fun x300 s301 hq hx hf => ?_)
  replace hw := hq hx hf
  clear hq hx hf
  refine v_istore X [(5, .int x300), (0, va_rf (some b)), (1, va_rf (some a1)), (2, va_rf (some a2)), (3, va_rf (some a3)), (4, .int x4)] (gD D_L_law_25 10 rfl) (by decide) rfl ?_
  refine v_aload_n X 3 rfl (gD D_L_law_25 11 rfl) rfl ?_
  refine v_aload_n X 1 rfl (gD D_L_law_25 12 rfl) rfl ?_
  refine v_iload X 5 rfl (gD D_L_law_25 13 rfl) ?_
  refine v_iconst X 1 (gD D_L_law_25 14 rfl) (by decide) ?_
  refine v_iadd X (gD D_L_law_25 15 rfl) ?_
  obtain ⟨h308, hw⟩ := hw
  refine v_sld X hX h308 (gD D_L_law_25 16 rfl) ?_
  refine v_aload_n X 1 rfl (gD D_L_law_25 17 rfl) rfl ?_
  refine v_iload X 5 rfl (gD D_L_law_25 18 rfl) ?_
  refine v_iconst X 2 (gD D_L_law_25 19 rfl) (by decide) ?_
  refine v_iadd X (gD D_L_law_25 20 rfl) ?_
  obtain ⟨h309, hw⟩ := hw
  refine v_sld X hX h309 (gD D_L_law_26 0 rfl) ?_
  refine v_aload_n X 1 rfl (gD D_L_law_26 1 rfl) rfl ?_
  refine v_iload X 5 rfl (gD D_L_law_26 2 rfl) ?_
  refine v_iconst X 3 (gD D_L_law_26 3 rfl) (by decide) ?_
  refine v_iadd X (gD D_L_law_26 4 rfl) ?_
  obtain ⟨h310, hw⟩ := hw
  refine v_sld X hX h310 (gD D_L_law_26 5 rfl) ?_
  refine v_callVi X (As := [.int (xs (x4 + 1).toNatClampNeg), .int (xs (x4 + 2).toNatClampNeg), .int (xs (x4 + 3).toNatClampNeg)]) (rest := []) (nA := 3) 0 0 k304 n305 (fun ht => c_X12_receive htr (ht.sub [1] rfl) hw) (Or.inr rfl) 1 (κ := 13) rfl (by decide) (rfl : gCl[12]? = some (RX12, TX12, 65)) lk_vRL_178 (by decide +kernel) rfl rfl (by decide) (by decide) (by decide) rfl rfl (gD D_L_law_26 6 rfl) (fun x311 s312 hq hx hf => ?_)
  replace hw := hq hx hf
  clear hq hx hf
  refine v_istore X [(6, .int x311), (5, .int x300), (0, va_rf (some b)), (1, va_rf (some a1)), (2, va_rf (some a2)), (3, va_rf (some a3)), (4, .int x4)] (gD D_L_law_26 7 rfl) (by decide) rfl ?_
  refine v_aload_n X 4 rfl (gD D_L_law_26 8 rfl) rfl ?_
  refine v_callVi X (As := []) (rest := []) (nA := 0) 0 0 k304 n305 (fun ht => c_X12_thrown htr (ht.sub [1] rfl) hw) (Or.inr rfl) 1 (κ := 13) rfl (by decide) (rfl : gCl[12]? = some (RX12, TX12, 65)) lk_vRL_139 (by decide +kernel) rfl rfl (by decide) (by decide) (by decide) rfl rfl (gD D_L_law_26 9 rfl) (fun x313 s314 hq hx hf => ?_)
  replace hw := hq hx hf
  clear hq hx hf
  refine v_iload X 1 rfl (gD D_L_law_26 10 rfl) ?_
  refine v_icmp_eq X 1005 (gD D_L_law_26 11 rfl) (by decide) (fun c315 => ?_) (fun c315 => ?_)
  · replace hw := hw.1 c315
    refine v_iload X 1 rfl (gD D_L_law_26 14 rfl) ?_
    refine v_if_ne X 1022 (gD D_L_law_26 15 rfl) (by decide) (fun c316 => ?_) (fun c316 => ?_)
    · replace hw := hw.1 c316
      refine v_goto X 2730 (gD D_L_law_27 4 rfl) (by decide) ?_
      refine v_iinc X (x4 + 7) 6 rfl [(4, .int (x4 + 7)), (6, .int x311), (5, .int x300), (0, va_rf (some b)), (1, va_rf (some a1)), (2, va_rf (some a2)), (3, va_rf (some a3))] (gD D_L_law_80 3 rfl) rfl (by decide) rfl ?_
      refine v_goto X 23 (gD D_L_law_80 4 rfl) (by decide) ?_
      exact v_sub [0, 1, 2] [3, 4, 5, 6, 0] rfl rfl (hK23 a1 a2 a3 (x4 + 7) s314 k304 n305 hw)
    · replace hw := hw.2 c316
      refine v_aload_n X 5 rfl (gD D_L_law_26 16 rfl) rfl ?_
      refine v_iconst X 0 (gD D_L_law_26 17 rfl) (by decide) ?_
      obtain ⟨h317, hw⟩ := hw
      refine v_lald X 2 rfl h317 (gD D_L_law_26 18 rfl) ?_
      refine v_iload X 0 rfl (gD D_L_law_26 19 rfl) ?_
      refine v_i2l X (gD D_L_law_26 20 rfl) ?_
      refine v_lcmp X (gD D_L_law_27 0 rfl) ?_
      refine v_if_eq X 1022 (gD D_L_law_27 1 rfl) (by decide) (fun c318 => ?_) (fun c318 => ?_)
      · replace hw := hw.1 c318
        refine v_goto X 2730 (gD D_L_law_27 4 rfl) (by decide) ?_
        refine v_iinc X (x4 + 7) 6 rfl [(4, .int (x4 + 7)), (6, .int x311), (5, .int x300), (0, va_rf (some b)), (1, va_rf (some a1)), (2, va_rf (some a2)), (3, va_rf (some a3))] (gD D_L_law_80 3 rfl) rfl (by decide) rfl ?_
        refine v_goto X 23 (gD D_L_law_80 4 rfl) (by decide) ?_
        exact v_sub [0, 1, 2] [3, 4, 5, 6, 0] rfl rfl (hK23 a1 a2 a3 (x4 + 7) s314 k304 n305 hw)
      · replace hw := hw.2 c318
        refine v_iconst X 0 (gD D_L_law_27 2 rfl) (by decide) ?_
        exact hw.elim
  · replace hw := hw.2 c315
    refine v_iconst X 0 (gD D_L_law_26 12 rfl) (by decide) ?_
    exact hw.elim
set_option maxRecDepth 100000 in
set_option maxHeartbeats 4000000 in
theorem t_L_law_1025 {p : Program} {l : Launch} {e : Env} {s : State} {m : MethodId} {below : List Frame} {meth : Method} {c : Code} {G : GX} {σ0 : St} {b L : Nat} {xs : Nat → Int32} (X : VC p l room_1 s m #[Value.ref b] meth c G 11 601024 7293034 7 RL code) (hr : meth.sig.returnType = ret) (htr : l.stackTraces = false) (hX : va_X b L xs s s.heap ∧ b < s.heap.size ∧ ¬ GA G b) (hsz : ∀ q, GA G q → s.heap.size ≤ q) {K23 : Nat → Nat → Nat → Int32 → St → Nat → Nat → Prop} (hK23 : ∀ (a1 : Nat) (a2 : Nat) (a3 : Nat) (x4 : Int32) (σ : St) (k n : Nat), K23 a1 a2 a3 x4 σ k n → V p l e room_1 s m #[Value.ref b] below meth c (lw_Z below #[Value.ref b] s) G 0 σ0 601024 7293034 7 σ k n [(some a1, 12), (some a2, 13), (some a3, 23)] 23 [(0, va_rf (some b)), (1, va_rf (some a1)), (2, va_rf (some a2)), (3, va_rf (some a3)), (4, .int x4)] []) : ∀ (a1 : Nat) (a2 : Nat) (a3 : Nat) (x4 : Int32) (σ : St) (k n : Nat), w_L_law_1025 L xs K23 a1 a2 a3 x4 σ k n → V p l e room_1 s m #[Value.ref b] below meth c (lw_Z below #[Value.ref b] s) G 0 σ0 601024 7293034 7 σ k n [(some a1, 12), (some a2, 13), (some a3, 23)] 1025 [(0, va_rf (some b)), (1, va_rf (some a1)), (2, va_rf (some a2)), (3, va_rf (some a3)), (4, .int x4)] [] := by
  intro a1 a2 a3 x4 σ k n hw
  unfold w_L_law_1025 at hw
  refine v_aload_n X 1 rfl (gD D_L_law_27 5 rfl) rfl ?_
  refine v_aload_n X 0 rfl (gD D_L_law_27 6 rfl) rfl ?_
  refine v_iload X 4 rfl (gD D_L_law_27 7 rfl) ?_
  refine v_iconst X 1 (gD D_L_law_27 8 rfl) (by decide) ?_
  refine v_iadd X (gD D_L_law_27 9 rfl) ?_
  obtain ⟨h319, hw⟩ := hw
  refine v_sld X hX h319 (gD D_L_law_27 10 rfl) ?_
  refine v_aload_n X 3 rfl (gD D_L_law_27 11 rfl) rfl ?_
  obtain ⟨k322, n323, k324, n325, h326, h327, hw⟩ := hw
  refine v_callW X (As := [va_rf (some a1), .int (xs (x4 + 1).toNatClampNeg), va_rf (some a3)]) (rest := []) (nA := 3) k322 n323 k324 n325 (fun ht => c_L_close htr (ht.sub [0, 2] rfl) hw) (Or.inr rfl) lk_sRL_179 (by decide +kernel) rfl rfl (by decide) (by decide) (by decide) h326 h327 (gD D_L_law_27 12 rfl) (fun x320 s321 hq hx hf => ?_)
  replace hw := hq hx hf
  clear hq hx hf
  refine v_istore X [(5, .int x320), (0, va_rf (some b)), (1, va_rf (some a1)), (2, va_rf (some a2)), (3, va_rf (some a3)), (4, .int x4)] (gD D_L_law_27 13 rfl) (by decide) rfl ?_
  refine v_aload_n X 3 rfl (gD D_L_law_27 14 rfl) rfl ?_
  refine v_aload_n X 1 rfl (gD D_L_law_27 15 rfl) rfl ?_
  refine v_iload X 5 rfl (gD D_L_law_27 16 rfl) ?_
  refine v_iconst X 1 (gD D_L_law_27 17 rfl) (by decide) ?_
  refine v_iadd X (gD D_L_law_27 18 rfl) ?_
  obtain ⟨h328, hw⟩ := hw
  refine v_sld X hX h328 (gD D_L_law_27 19 rfl) ?_
  refine v_callVi X (As := [.int (xs (x4 + 1).toNatClampNeg)]) (rest := []) (nA := 1) 0 0 k324 n325 (fun ht => c_X12_close htr (ht.sub [1] rfl) hw) (Or.inr rfl) 1 (κ := 13) rfl (by decide) (rfl : gCl[12]? = some (RX12, TX12, 65)) lk_vRL_181 (by decide +kernel) rfl rfl (by decide) (by decide) (by decide) rfl rfl (gD D_L_law_27 20 rfl) (fun x329 s330 hq hx hf => ?_)
  replace hw := hq hx hf
  clear hq hx hf
  refine v_istore X [(6, .int x329), (5, .int x320), (0, va_rf (some b)), (1, va_rf (some a1)), (2, va_rf (some a2)), (3, va_rf (some a3)), (4, .int x4)] (gD D_L_law_28 0 rfl) (by decide) rfl ?_
  refine v_aload_n X 4 rfl (gD D_L_law_28 1 rfl) rfl ?_
  refine v_callVi X (As := []) (rest := []) (nA := 0) 0 0 k324 n325 (fun ht => c_X12_thrown htr (ht.sub [1] rfl) hw) (Or.inr rfl) 1 (κ := 13) rfl (by decide) (rfl : gCl[12]? = some (RX12, TX12, 65)) lk_vRL_139 (by decide +kernel) rfl rfl (by decide) (by decide) (by decide) rfl rfl (gD D_L_law_28 2 rfl) (fun x331 s332 hq hx hf => ?_)
  replace hw := hq hx hf
  clear hq hx hf
  refine v_iload X 1 rfl (gD D_L_law_28 3 rfl) ?_
  refine v_icmp_eq X 1061 (gD D_L_law_28 4 rfl) (by decide) (fun c333 => ?_) (fun c333 => ?_)
  · replace hw := hw.1 c333
    refine v_iload X 1 rfl (gD D_L_law_28 7 rfl) ?_
    refine v_if_ne X 1078 (gD D_L_law_28 8 rfl) (by decide) (fun c334 => ?_) (fun c334 => ?_)
    · replace hw := hw.1 c334
      refine v_goto X 2730 (gD D_L_law_28 18 rfl) (by decide) ?_
      refine v_iinc X (x4 + 7) 6 rfl [(4, .int (x4 + 7)), (6, .int x329), (5, .int x320), (0, va_rf (some b)), (1, va_rf (some a1)), (2, va_rf (some a2)), (3, va_rf (some a3))] (gD D_L_law_80 3 rfl) rfl (by decide) rfl ?_
      refine v_goto X 23 (gD D_L_law_80 4 rfl) (by decide) ?_
      exact v_sub [0, 1, 2] [3, 4, 5, 6, 0] rfl rfl (hK23 a1 a2 a3 (x4 + 7) s332 k324 n325 hw)
    · replace hw := hw.2 c334
      refine v_aload_n X 5 rfl (gD D_L_law_28 9 rfl) rfl ?_
      refine v_iconst X 0 (gD D_L_law_28 10 rfl) (by decide) ?_
      obtain ⟨h335, hw⟩ := hw
      refine v_lald X 2 rfl h335 (gD D_L_law_28 11 rfl) ?_
      refine v_iload X 0 rfl (gD D_L_law_28 12 rfl) ?_
      refine v_i2l X (gD D_L_law_28 13 rfl) ?_
      refine v_lcmp X (gD D_L_law_28 14 rfl) ?_
      refine v_if_eq X 1078 (gD D_L_law_28 15 rfl) (by decide) (fun c336 => ?_) (fun c336 => ?_)
      · replace hw := hw.1 c336
        refine v_goto X 2730 (gD D_L_law_28 18 rfl) (by decide) ?_
        refine v_iinc X (x4 + 7) 6 rfl [(4, .int (x4 + 7)), (6, .int x329), (5, .int x320), (0, va_rf (some b)), (1, va_rf (some a1)), (2, va_rf (some a2)), (3, va_rf (some a3))] (gD D_L_law_80 3 rfl) rfl (by decide) rfl ?_
        refine v_goto X 23 (gD D_L_law_80 4 rfl) (by decide) ?_
        exact v_sub [0, 1, 2] [3, 4, 5, 6, 0] rfl rfl (hK23 a1 a2 a3 (x4 + 7) s332 k324 n325 hw)
      · replace hw := hw.2 c336
        refine v_iconst X 0 (gD D_L_law_28 16 rfl) (by decide) ?_
        exact hw.elim
  · replace hw := hw.2 c333
    refine v_iconst X 0 (gD D_L_law_28 5 rfl) (by decide) ?_
    exact hw.elim
set_option maxRecDepth 100000 in
set_option maxHeartbeats 4000000 in
theorem t_L_law_1081 {p : Program} {l : Launch} {e : Env} {s : State} {m : MethodId} {below : List Frame} {meth : Method} {c : Code} {G : GX} {σ0 : St} {b L : Nat} {xs : Nat → Int32} (X : VC p l room_1 s m #[Value.ref b] meth c G 11 601024 7293034 7 RL code) (hr : meth.sig.returnType = ret) (htr : l.stackTraces = false) (hX : va_X b L xs s s.heap ∧ b < s.heap.size ∧ ¬ GA G b) (hsz : ∀ q, GA G q → s.heap.size ≤ q) {K23 : Nat → Nat → Nat → Int32 → St → Nat → Nat → Prop} (hK23 : ∀ (a1 : Nat) (a2 : Nat) (a3 : Nat) (x4 : Int32) (σ : St) (k n : Nat), K23 a1 a2 a3 x4 σ k n → V p l e room_1 s m #[Value.ref b] below meth c (lw_Z below #[Value.ref b] s) G 0 σ0 601024 7293034 7 σ k n [(some a1, 12), (some a2, 13), (some a3, 23)] 23 [(0, va_rf (some b)), (1, va_rf (some a1)), (2, va_rf (some a2)), (3, va_rf (some a3)), (4, .int x4)] []) : ∀ (a1 : Nat) (a2 : Nat) (a3 : Nat) (x4 : Int32) (σ : St) (k n : Nat), w_L_law_1081 L xs K23 a1 a2 a3 x4 σ k n → V p l e room_1 s m #[Value.ref b] below meth c (lw_Z below #[Value.ref b] s) G 0 σ0 601024 7293034 7 σ k n [(some a1, 12), (some a2, 13), (some a3, 23)] 1081 [(0, va_rf (some b)), (1, va_rf (some a1)), (2, va_rf (some a2)), (3, va_rf (some a3)), (4, .int x4)] [] := by
  intro a1 a2 a3 x4 σ k n hw
  unfold w_L_law_1081 at hw
  refine v_aload_n X 1 rfl (gD D_L_law_28 19 rfl) rfl ?_
  refine v_aload_n X 0 rfl (gD D_L_law_28 20 rfl) rfl ?_
  refine v_iload X 4 rfl (gD D_L_law_29 0 rfl) ?_
  refine v_iconst X 1 (gD D_L_law_29 1 rfl) (by decide) ?_
  refine v_iadd X (gD D_L_law_29 2 rfl) ?_
  obtain ⟨h337, hw⟩ := hw
  refine v_sld X hX h337 (gD D_L_law_29 3 rfl) ?_
  refine v_aload_n X 3 rfl (gD D_L_law_29 4 rfl) rfl ?_
  obtain ⟨k340, n341, k342, n343, h344, h345, hw⟩ := hw
  refine v_callW X (As := [va_rf (some a1), .int (xs (x4 + 1).toNatClampNeg), va_rf (some a3)]) (rest := []) (nA := 3) k340 n341 k342 n343 (fun ht => c_L_others htr (ht.sub [0, 2] rfl) hw) (Or.inr rfl) lk_sRL_182 (by decide +kernel) rfl rfl (by decide) (by decide) (by decide) h344 h345 (gD D_L_law_29 5 rfl) (fun x338 s339 hq hx hf => ?_)
  replace hw := hq hx hf
  clear hq hx hf
  refine v_istore X [(5, .int x338), (0, va_rf (some b)), (1, va_rf (some a1)), (2, va_rf (some a2)), (3, va_rf (some a3)), (4, .int x4)] (gD D_L_law_29 6 rfl) (by decide) rfl ?_
  refine v_aload_n X 3 rfl (gD D_L_law_29 7 rfl) rfl ?_
  refine v_aload_n X 1 rfl (gD D_L_law_29 8 rfl) rfl ?_
  refine v_iload X 5 rfl (gD D_L_law_29 9 rfl) ?_
  refine v_iconst X 1 (gD D_L_law_29 10 rfl) (by decide) ?_
  refine v_iadd X (gD D_L_law_29 11 rfl) ?_
  obtain ⟨h346, hw⟩ := hw
  refine v_sld X hX h346 (gD D_L_law_29 12 rfl) ?_
  refine v_callVi X (As := [.int (xs (x4 + 1).toNatClampNeg)]) (rest := []) (nA := 1) 0 0 k342 n343 (fun ht => c_X12_others htr (ht.sub [1] rfl) hw) (Or.inr rfl) 1 (κ := 13) rfl (by decide) (rfl : gCl[12]? = some (RX12, TX12, 65)) lk_vRL_184 (by decide +kernel) rfl rfl (by decide) (by decide) (by decide) rfl rfl (gD D_L_law_29 13 rfl) (fun x347 s348 hq hx hf => ?_)
  replace hw := hq hx hf
  clear hq hx hf
  refine v_istore X [(6, .int x347), (5, .int x338), (0, va_rf (some b)), (1, va_rf (some a1)), (2, va_rf (some a2)), (3, va_rf (some a3)), (4, .int x4)] (gD D_L_law_29 14 rfl) (by decide) rfl ?_
  refine v_aload_n X 4 rfl (gD D_L_law_29 15 rfl) rfl ?_
  refine v_callVi X (As := []) (rest := []) (nA := 0) 0 0 k342 n343 (fun ht => c_X12_thrown htr (ht.sub [1] rfl) hw) (Or.inr rfl) 1 (κ := 13) rfl (by decide) (rfl : gCl[12]? = some (RX12, TX12, 65)) lk_vRL_139 (by decide +kernel) rfl rfl (by decide) (by decide) (by decide) rfl rfl (gD D_L_law_29 16 rfl) (fun x349 s350 hq hx hf => ?_)
  replace hw := hq hx hf
  clear hq hx hf
  refine v_iload X 1 rfl (gD D_L_law_29 17 rfl) ?_
  refine v_icmp_eq X 1117 (gD D_L_law_29 18 rfl) (by decide) (fun c351 => ?_) (fun c351 => ?_)
  · replace hw := hw.1 c351
    refine v_iload X 1 rfl (gD D_L_law_30 0 rfl) ?_
    refine v_if_ne X 1134 (gD D_L_law_30 1 rfl) (by decide) (fun c352 => ?_) (fun c352 => ?_)
    · replace hw := hw.1 c352
      refine v_goto X 2730 (gD D_L_law_30 11 rfl) (by decide) ?_
      refine v_iinc X (x4 + 7) 6 rfl [(4, .int (x4 + 7)), (6, .int x347), (5, .int x338), (0, va_rf (some b)), (1, va_rf (some a1)), (2, va_rf (some a2)), (3, va_rf (some a3))] (gD D_L_law_80 3 rfl) rfl (by decide) rfl ?_
      refine v_goto X 23 (gD D_L_law_80 4 rfl) (by decide) ?_
      exact v_sub [0, 1, 2] [3, 4, 5, 6, 0] rfl rfl (hK23 a1 a2 a3 (x4 + 7) s350 k342 n343 hw)
    · replace hw := hw.2 c352
      refine v_aload_n X 5 rfl (gD D_L_law_30 2 rfl) rfl ?_
      refine v_iconst X 0 (gD D_L_law_30 3 rfl) (by decide) ?_
      obtain ⟨h353, hw⟩ := hw
      refine v_lald X 2 rfl h353 (gD D_L_law_30 4 rfl) ?_
      refine v_iload X 0 rfl (gD D_L_law_30 5 rfl) ?_
      refine v_i2l X (gD D_L_law_30 6 rfl) ?_
      refine v_lcmp X (gD D_L_law_30 7 rfl) ?_
      refine v_if_eq X 1134 (gD D_L_law_30 8 rfl) (by decide) (fun c354 => ?_) (fun c354 => ?_)
      · replace hw := hw.1 c354
        refine v_goto X 2730 (gD D_L_law_30 11 rfl) (by decide) ?_
        refine v_iinc X (x4 + 7) 6 rfl [(4, .int (x4 + 7)), (6, .int x347), (5, .int x338), (0, va_rf (some b)), (1, va_rf (some a1)), (2, va_rf (some a2)), (3, va_rf (some a3))] (gD D_L_law_80 3 rfl) rfl (by decide) rfl ?_
        refine v_goto X 23 (gD D_L_law_80 4 rfl) (by decide) ?_
        exact v_sub [0, 1, 2] [3, 4, 5, 6, 0] rfl rfl (hK23 a1 a2 a3 (x4 + 7) s350 k342 n343 hw)
      · replace hw := hw.2 c354
        refine v_iconst X 0 (gD D_L_law_30 9 rfl) (by decide) ?_
        exact hw.elim
  · replace hw := hw.2 c351
    refine v_iconst X 0 (gD D_L_law_29 19 rfl) (by decide) ?_
    exact hw.elim
set_option maxRecDepth 100000 in
set_option maxHeartbeats 4000000 in
theorem t_L_law_1137 {p : Program} {l : Launch} {e : Env} {s : State} {m : MethodId} {below : List Frame} {meth : Method} {c : Code} {G : GX} {σ0 : St} {b L : Nat} {xs : Nat → Int32} (X : VC p l room_1 s m #[Value.ref b] meth c G 11 601024 7293034 7 RL code) (hr : meth.sig.returnType = ret) (htr : l.stackTraces = false) (hX : va_X b L xs s s.heap ∧ b < s.heap.size ∧ ¬ GA G b) (hsz : ∀ q, GA G q → s.heap.size ≤ q) {K23 : Nat → Nat → Nat → Int32 → St → Nat → Nat → Prop} (hK23 : ∀ (a1 : Nat) (a2 : Nat) (a3 : Nat) (x4 : Int32) (σ : St) (k n : Nat), K23 a1 a2 a3 x4 σ k n → V p l e room_1 s m #[Value.ref b] below meth c (lw_Z below #[Value.ref b] s) G 0 σ0 601024 7293034 7 σ k n [(some a1, 12), (some a2, 13), (some a3, 23)] 23 [(0, va_rf (some b)), (1, va_rf (some a1)), (2, va_rf (some a2)), (3, va_rf (some a3)), (4, .int x4)] []) : ∀ (a1 : Nat) (a2 : Nat) (a3 : Nat) (x4 : Int32) (σ : St) (k n : Nat), w_L_law_1137 L xs K23 a1 a2 a3 x4 σ k n → V p l e room_1 s m #[Value.ref b] below meth c (lw_Z below #[Value.ref b] s) G 0 σ0 601024 7293034 7 σ k n [(some a1, 12), (some a2, 13), (some a3, 23)] 1137 [(0, va_rf (some b)), (1, va_rf (some a1)), (2, va_rf (some a2)), (3, va_rf (some a3)), (4, .int x4)] [] := by
  intro a1 a2 a3 x4 σ k n hw
  unfold w_L_law_1137 at hw
  refine v_aload_n X 1 rfl (gD D_L_law_30 12 rfl) rfl ?_
  refine v_aload_n X 0 rfl (gD D_L_law_30 13 rfl) rfl ?_
  refine v_iload X 4 rfl (gD D_L_law_30 14 rfl) ?_
  refine v_iconst X 1 (gD D_L_law_30 15 rfl) (by decide) ?_
  refine v_iadd X (gD D_L_law_30 16 rfl) ?_
  obtain ⟨h355, hw⟩ := hw
  refine v_sld X hX h355 (gD D_L_law_30 17 rfl) ?_
  refine v_aload_n X 0 rfl (gD D_L_law_30 18 rfl) rfl ?_
  refine v_iload X 4 rfl (gD D_L_law_30 19 rfl) ?_
  refine v_iconst X 2 (gD D_L_law_30 20 rfl) (by decide) ?_
  refine v_iadd X (gD D_L_law_31 0 rfl) ?_
  obtain ⟨h356, hw⟩ := hw
  refine v_sld X hX h356 (gD D_L_law_31 1 rfl) ?_
  refine v_aload_n X 3 rfl (gD D_L_law_31 2 rfl) rfl ?_
  obtain ⟨k359, n360, k361, n362, h363, h364, hw⟩ := hw
  refine v_callW X (As := [va_rf (some a1), .int (xs (x4 + 1).toNatClampNeg), .int (xs (x4 + 2).toNatClampNeg), va_rf (some a3)]) (rest := []) (nA := 4) k359 n360 k361 n362 (fun ht => c_L_putAway htr (ht.sub [0, 2] rfl) hw) (Or.inr rfl) lk_sRL_185 (by decide +kernel) rfl rfl (by decide) (by decide) (by decide) h363 h364 (gD D_L_law_31 3 rfl) (fun x357 s358 hq hx hf => ?_)
  replace hw := hq hx hf
  clear hq hx hf
  refine v_istore X [(5, .int x357), (0, va_rf (some b)), (1, va_rf (some a1)), (2, va_rf (some a2)), (3, va_rf (some a3)), (4, .int x4)] (gD D_L_law_31 4 rfl) (by decide) rfl ?_
  refine v_aload_n X 3 rfl (gD D_L_law_31 5 rfl) rfl ?_
  refine v_aload_n X 1 rfl (gD D_L_law_31 6 rfl) rfl ?_
  refine v_iload X 5 rfl (gD D_L_law_31 7 rfl) ?_
  refine v_iconst X 1 (gD D_L_law_31 8 rfl) (by decide) ?_
  refine v_iadd X (gD D_L_law_31 9 rfl) ?_
  obtain ⟨h365, hw⟩ := hw
  refine v_sld X hX h365 (gD D_L_law_31 10 rfl) ?_
  refine v_aload_n X 1 rfl (gD D_L_law_31 11 rfl) rfl ?_
  refine v_iload X 5 rfl (gD D_L_law_31 12 rfl) ?_
  refine v_iconst X 2 (gD D_L_law_31 13 rfl) (by decide) ?_
  refine v_iadd X (gD D_L_law_31 14 rfl) ?_
  obtain ⟨h366, hw⟩ := hw
  refine v_sld X hX h366 (gD D_L_law_31 15 rfl) ?_
  refine v_callVi X (As := [.int (xs (x4 + 1).toNatClampNeg), .int (xs (x4 + 2).toNatClampNeg)]) (rest := []) (nA := 2) 0 0 k361 n362 (fun ht => c_X12_putAway htr (ht.sub [1] rfl) hw) (Or.inr rfl) 1 (κ := 13) rfl (by decide) (rfl : gCl[12]? = some (RX12, TX12, 65)) lk_vRL_187 (by decide +kernel) rfl rfl (by decide) (by decide) (by decide) rfl rfl (gD D_L_law_31 16 rfl) (fun x367 s368 hq hx hf => ?_)
  replace hw := hq hx hf
  clear hq hx hf
  refine v_istore X [(6, .int x367), (5, .int x357), (0, va_rf (some b)), (1, va_rf (some a1)), (2, va_rf (some a2)), (3, va_rf (some a3)), (4, .int x4)] (gD D_L_law_31 17 rfl) (by decide) rfl ?_
  refine v_aload_n X 4 rfl (gD D_L_law_31 18 rfl) rfl ?_
  refine v_callVi X (As := []) (rest := []) (nA := 0) 0 0 k361 n362 (fun ht => c_X12_thrown htr (ht.sub [1] rfl) hw) (Or.inr rfl) 1 (κ := 13) rfl (by decide) (rfl : gCl[12]? = some (RX12, TX12, 65)) lk_vRL_139 (by decide +kernel) rfl rfl (by decide) (by decide) (by decide) rfl rfl (gD D_L_law_31 19 rfl) (fun x369 s370 hq hx hf => ?_)
  replace hw := hq hx hf
  clear hq hx hf
  refine v_iload X 1 rfl (gD D_L_law_31 20 rfl) ?_
  refine v_icmp_eq X 1185 (gD D_L_law_32 0 rfl) (by decide) (fun c371 => ?_) (fun c371 => ?_)
  · replace hw := hw.1 c371
    refine v_iload X 1 rfl (gD D_L_law_32 3 rfl) ?_
    refine v_if_ne X 1202 (gD D_L_law_32 4 rfl) (by decide) (fun c372 => ?_) (fun c372 => ?_)
    · replace hw := hw.1 c372
      refine v_goto X 2730 (gD D_L_law_32 14 rfl) (by decide) ?_
      refine v_iinc X (x4 + 7) 6 rfl [(4, .int (x4 + 7)), (6, .int x367), (5, .int x357), (0, va_rf (some b)), (1, va_rf (some a1)), (2, va_rf (some a2)), (3, va_rf (some a3))] (gD D_L_law_80 3 rfl) rfl (by decide) rfl ?_
      refine v_goto X 23 (gD D_L_law_80 4 rfl) (by decide) ?_
      exact v_sub [0, 1, 2] [3, 4, 5, 6, 0] rfl rfl (hK23 a1 a2 a3 (x4 + 7) s370 k361 n362 hw)
    · replace hw := hw.2 c372
      refine v_aload_n X 5 rfl (gD D_L_law_32 5 rfl) rfl ?_
      refine v_iconst X 0 (gD D_L_law_32 6 rfl) (by decide) ?_
      obtain ⟨h373, hw⟩ := hw
      refine v_lald X 2 rfl h373 (gD D_L_law_32 7 rfl) ?_
      refine v_iload X 0 rfl (gD D_L_law_32 8 rfl) ?_
      refine v_i2l X (gD D_L_law_32 9 rfl) ?_
      refine v_lcmp X (gD D_L_law_32 10 rfl) ?_
      refine v_if_eq X 1202 (gD D_L_law_32 11 rfl) (by decide) (fun c374 => ?_) (fun c374 => ?_)
      · replace hw := hw.1 c374
        refine v_goto X 2730 (gD D_L_law_32 14 rfl) (by decide) ?_
        refine v_iinc X (x4 + 7) 6 rfl [(4, .int (x4 + 7)), (6, .int x367), (5, .int x357), (0, va_rf (some b)), (1, va_rf (some a1)), (2, va_rf (some a2)), (3, va_rf (some a3))] (gD D_L_law_80 3 rfl) rfl (by decide) rfl ?_
        refine v_goto X 23 (gD D_L_law_80 4 rfl) (by decide) ?_
        exact v_sub [0, 1, 2] [3, 4, 5, 6, 0] rfl rfl (hK23 a1 a2 a3 (x4 + 7) s370 k361 n362 hw)
      · replace hw := hw.2 c374
        refine v_iconst X 0 (gD D_L_law_32 12 rfl) (by decide) ?_
        exact hw.elim
  · replace hw := hw.2 c371
    refine v_iconst X 0 (gD D_L_law_32 1 rfl) (by decide) ?_
    exact hw.elim
set_option maxRecDepth 100000 in
set_option maxHeartbeats 4000000 in
theorem t_L_law_1205 {p : Program} {l : Launch} {e : Env} {s : State} {m : MethodId} {below : List Frame} {meth : Method} {c : Code} {G : GX} {σ0 : St} {b L : Nat} {xs : Nat → Int32} (X : VC p l room_1 s m #[Value.ref b] meth c G 11 601024 7293034 7 RL code) (hr : meth.sig.returnType = ret) (htr : l.stackTraces = false) (hX : va_X b L xs s s.heap ∧ b < s.heap.size ∧ ¬ GA G b) (hsz : ∀ q, GA G q → s.heap.size ≤ q) {K23 : Nat → Nat → Nat → Int32 → St → Nat → Nat → Prop} (hK23 : ∀ (a1 : Nat) (a2 : Nat) (a3 : Nat) (x4 : Int32) (σ : St) (k n : Nat), K23 a1 a2 a3 x4 σ k n → V p l e room_1 s m #[Value.ref b] below meth c (lw_Z below #[Value.ref b] s) G 0 σ0 601024 7293034 7 σ k n [(some a1, 12), (some a2, 13), (some a3, 23)] 23 [(0, va_rf (some b)), (1, va_rf (some a1)), (2, va_rf (some a2)), (3, va_rf (some a3)), (4, .int x4)] []) : ∀ (a1 : Nat) (a2 : Nat) (a3 : Nat) (x4 : Int32) (σ : St) (k n : Nat), w_L_law_1205 L xs K23 a1 a2 a3 x4 σ k n → V p l e room_1 s m #[Value.ref b] below meth c (lw_Z below #[Value.ref b] s) G 0 σ0 601024 7293034 7 σ k n [(some a1, 12), (some a2, 13), (some a3, 23)] 1205 [(0, va_rf (some b)), (1, va_rf (some a1)), (2, va_rf (some a2)), (3, va_rf (some a3)), (4, .int x4)] [] := by
  intro a1 a2 a3 x4 σ k n hw
  unfold w_L_law_1205 at hw
  refine v_aload_n X 1 rfl (gD D_L_law_32 15 rfl) rfl ?_
  obtain ⟨k377, n378, k379, n380, h381, h382, hw⟩ := hw
  refine v_callVi X (As := []) (rest := []) (nA := 0) k377 n378 k379 n380 (fun ht => c_X11_refill htr (ht.sub [0] rfl) hw) (Or.inr rfl) 0 (κ := 12) rfl (by decide) (rfl : gCl[11]? = some (RX11, TX11, 19)) lk_vRL_188 (by decide +kernel) rfl rfl (by decide) (by decide) (by decide) h381 h382 (gD D_L_law_32 16 rfl) (fun x375 s376 hq hx hf => ?_)
  replace hw := hq hx hf
  clear hq hx hf
  refine v_aload_n X 2 rfl (gD D_L_law_32 17 rfl) rfl ?_
  refine v_callVi X (As := []) (rest := [.int x375]) (nA := 0) 0 0 k379 n380 (fun ht => c_X12_refill htr (ht.sub [1] rfl) hw) (Or.inr rfl) 1 (κ := 13) rfl (by decide) (rfl : gCl[12]? = some (RX12, TX12, 65)) lk_vRL_191 (by decide +kernel) rfl rfl (by simp [rf_cat, ct_i]) (by decide) (by decide) rfl rfl (gD D_L_law_32 18 rfl) (fun x383 s384 hq hx hf => ?_)
  replace hw := hq hx hf
  clear hq hx hf
  refine v_icmp_eq X 2730 (gD D_L_law_32 19 rfl) (by decide) (fun c385 => ?_) (fun c385 => ?_)
  · replace hw := hw.1 c385
    refine v_iinc X (x4 + 7) 4 rfl [(4, .int (x4 + 7)), (0, va_rf (some b)), (1, va_rf (some a1)), (2, va_rf (some a2)), (3, va_rf (some a3))] (gD D_L_law_80 3 rfl) rfl (by decide) rfl ?_
    refine v_goto X 23 (gD D_L_law_80 4 rfl) (by decide) ?_
    exact v_sub [0, 1, 2] [1, 2, 3, 4, 0] rfl rfl (hK23 a1 a2 a3 (x4 + 7) s384 k379 n380 hw)
  · replace hw := hw.2 c385
    refine v_iconst X 0 (gD D_L_law_32 20 rfl) (by decide) ?_
    exact hw.elim
set_option maxRecDepth 100000 in
set_option maxHeartbeats 4000000 in
theorem t_L_law_1272 {p : Program} {l : Launch} {e : Env} {s : State} {m : MethodId} {below : List Frame} {meth : Method} {c : Code} {G : GX} {σ0 : St} {b L : Nat} {xs : Nat → Int32} (X : VC p l room_1 s m #[Value.ref b] meth c G 11 601024 7293034 7 RL code) (hr : meth.sig.returnType = ret) (htr : l.stackTraces = false) (hX : va_X b L xs s s.heap ∧ b < s.heap.size ∧ ¬ GA G b) (hsz : ∀ q, GA G q → s.heap.size ≤ q) {K23 : Nat → Nat → Nat → Int32 → St → Nat → Nat → Prop} (hK23 : ∀ (a1 : Nat) (a2 : Nat) (a3 : Nat) (x4 : Int32) (σ : St) (k n : Nat), K23 a1 a2 a3 x4 σ k n → V p l e room_1 s m #[Value.ref b] below meth c (lw_Z below #[Value.ref b] s) G 0 σ0 601024 7293034 7 σ k n [(some a1, 12), (some a2, 13), (some a3, 23)] 23 [(0, va_rf (some b)), (1, va_rf (some a1)), (2, va_rf (some a2)), (3, va_rf (some a3)), (4, .int x4)] []) : ∀ (a1 : Nat) (a2 : Nat) (a3 : Nat) (x4 : Int32) (x5 : Int32) (as0 : Nat) (xs1 : Int32) (xs2 : Int32) (σ : St) (k n : Nat), w_L_law_1272 L xs K23 a1 a2 a3 x4 x5 as0 xs1 xs2 σ k n → V p l e room_1 s m #[Value.ref b] below meth c (lw_Z below #[Value.ref b] s) G 0 σ0 601024 7293034 7 σ k n [(some a1, 12), (some a2, 13), (some a3, 23), (some as0, 13)] 1272 [(0, va_rf (some b)), (1, va_rf (some a1)), (2, va_rf (some a2)), (3, va_rf (some a3)), (4, .int x4), (5, .int x5)] [.int xs2, .int xs1, va_rf (some as0)] := by
  intro a1 a2 a3 x4 x5 as0 xs1 xs2 σ k n hw
  unfold w_L_law_1272 at hw
  refine v_aload_n X 0 rfl (gD D_L_law_34 18 rfl) rfl ?_
  refine v_iload X 4 rfl (gD D_L_law_34 19 rfl) ?_
  refine v_iconst X 3 (gD D_L_law_34 20 rfl) (by decide) ?_
  refine v_iadd X (gD D_L_law_35 0 rfl) ?_
  obtain ⟨h401, hw⟩ := hw
  refine v_sld X hX h401 (gD D_L_law_35 1 rfl) ?_
  refine v_callVi X (As := [.int xs1, .int xs2, .int (xs (x4 + 3).toNatClampNeg)]) (rest := []) (nA := 3) 0 0 k n (fun ht => c_X12_order htr (ht.sub [3] rfl) hw) (Or.inr rfl) 3 (κ := 13) rfl (by decide) (rfl : gCl[12]? = some (RX12, TX12, 65)) lk_vRL_195 (by decide +kernel) rfl rfl (by decide) (by decide) (by decide) rfl rfl (gD D_L_law_35 2 rfl) (fun x402 s403 hq hx hf => ?_)
  replace hw := hq hx hf
  clear hq hx hf
  refine v_istore X [(6, .int x402), (0, va_rf (some b)), (1, va_rf (some a1)), (2, va_rf (some a2)), (3, va_rf (some a3)), (4, .int x4), (5, .int x5)] (gD D_L_law_35 3 rfl) (by decide) rfl ?_
  refine v_aload_n X 3 rfl (gD D_L_law_35 4 rfl) rfl ?_
  refine v_callVi X (As := []) (rest := []) (nA := 0) 0 0 k n (fun ht => c_X12_thrown htr (ht.sub [1] rfl) hw) (Or.inr rfl) 1 (κ := 13) rfl (by decide) (rfl : gCl[12]? = some (RX12, TX12, 65)) lk_vRL_139 (by decide +kernel) rfl rfl (by decide) (by decide) (by decide) rfl rfl (gD D_L_law_35 5 rfl) (fun x404 s405 hq hx hf => ?_)
  replace hw := hq hx hf
  clear hq hx hf
  refine v_iload X 6 rfl (gD D_L_law_35 6 rfl) ?_
  refine v_icmp_eq X 1294 (gD D_L_law_35 7 rfl) (by decide) (fun c406 => ?_) (fun c406 => ?_)
  · replace hw := hw.1 c406
    refine v_iload X 6 rfl (gD D_L_law_35 10 rfl) ?_
    refine v_if_ne X 1311 (gD D_L_law_35 11 rfl) (by decide) (fun c407 => ?_) (fun c407 => ?_)
    · replace hw := hw.1 c407
      refine v_goto X 2730 (gD D_L_law_36 0 rfl) (by decide) ?_
      refine v_iinc X (x4 + 7) 5 rfl [(4, .int (x4 + 7)), (6, .int x402), (0, va_rf (some b)), (1, va_rf (some a1)), (2, va_rf (some a2)), (3, va_rf (some a3)), (5, .int x5)] (gD D_L_law_80 3 rfl) rfl (by decide) rfl ?_
      refine v_goto X 23 (gD D_L_law_80 4 rfl) (by decide) ?_
      exact v_sub [0, 1, 2] [2, 3, 4, 5, 0] rfl rfl (hK23 a1 a2 a3 (x4 + 7) s405 k n hw)
    · replace hw := hw.2 c407
      refine v_aload_n X 4 rfl (gD D_L_law_35 12 rfl) rfl ?_
      refine v_iconst X 0 (gD D_L_law_35 13 rfl) (by decide) ?_
      obtain ⟨h408, hw⟩ := hw
      refine v_lald X 2 rfl h408 (gD D_L_law_35 14 rfl) ?_
      refine v_iload X 0 rfl (gD D_L_law_35 15 rfl) ?_
      refine v_i2l X (gD D_L_law_35 16 rfl) ?_
      refine v_lcmp X (gD D_L_law_35 17 rfl) ?_
      refine v_if_eq X 1311 (gD D_L_law_35 18 rfl) (by decide) (fun c409 => ?_) (fun c409 => ?_)
      · replace hw := hw.1 c409
        refine v_goto X 2730 (gD D_L_law_36 0 rfl) (by decide) ?_
        refine v_iinc X (x4 + 7) 5 rfl [(4, .int (x4 + 7)), (6, .int x402), (0, va_rf (some b)), (1, va_rf (some a1)), (2, va_rf (some a2)), (3, va_rf (some a3)), (5, .int x5)] (gD D_L_law_80 3 rfl) rfl (by decide) rfl ?_
        refine v_goto X 23 (gD D_L_law_80 4 rfl) (by decide) ?_
        exact v_sub [0, 1, 2] [2, 3, 4, 5, 0] rfl rfl (hK23 a1 a2 a3 (x4 + 7) s405 k n hw)
      · replace hw := hw.2 c409
        refine v_iconst X 0 (gD D_L_law_35 19 rfl) (by decide) ?_
        exact hw.elim
  · replace hw := hw.2 c406
    refine v_iconst X 0 (gD D_L_law_35 8 rfl) (by decide) ?_
    exact hw.elim
set_option maxRecDepth 100000 in
set_option maxHeartbeats 4000000 in
theorem t_L_law_1239 {p : Program} {l : Launch} {e : Env} {s : State} {m : MethodId} {below : List Frame} {meth : Method} {c : Code} {G : GX} {σ0 : St} {b L : Nat} {xs : Nat → Int32} (X : VC p l room_1 s m #[Value.ref b] meth c G 11 601024 7293034 7 RL code) (hr : meth.sig.returnType = ret) (htr : l.stackTraces = false) (hX : va_X b L xs s s.heap ∧ b < s.heap.size ∧ ¬ GA G b) (hsz : ∀ q, GA G q → s.heap.size ≤ q) {K23 : Nat → Nat → Nat → Int32 → St → Nat → Nat → Prop} (hK23 : ∀ (a1 : Nat) (a2 : Nat) (a3 : Nat) (x4 : Int32) (σ : St) (k n : Nat), K23 a1 a2 a3 x4 σ k n → V p l e room_1 s m #[Value.ref b] below meth c (lw_Z below #[Value.ref b] s) G 0 σ0 601024 7293034 7 σ k n [(some a1, 12), (some a2, 13), (some a3, 23)] 23 [(0, va_rf (some b)), (1, va_rf (some a1)), (2, va_rf (some a2)), (3, va_rf (some a3)), (4, .int x4)] []) : ∀ (a1 : Nat) (a2 : Nat) (a3 : Nat) (x4 : Int32) (as0 : Nat) (xs1 : Int32) (xs2 : Int32) (σ : St) (k n : Nat), w_L_law_1239 L xs K23 a1 a2 a3 x4 as0 xs1 xs2 σ k n → V p l e room_1 s m #[Value.ref b] below meth c (lw_Z below #[Value.ref b] s) G 0 σ0 601024 7293034 7 σ k n [(some a1, 12), (some a2, 13), (some a3, 23), (some as0, 12)] 1239 [(0, va_rf (some b)), (1, va_rf (some a1)), (2, va_rf (some a2)), (3, va_rf (some a3)), (4, .int x4)] [.int xs2, .int xs1, va_rf (some as0)] := by
  intro a1 a2 a3 x4 as0 xs1 xs2 σ k n hw
  unfold w_L_law_1239 at hw
  refine v_aload_n X 0 rfl (gD D_L_law_33 16 rfl) rfl ?_
  refine v_iload X 4 rfl (gD D_L_law_33 17 rfl) ?_
  refine v_iconst X 3 (gD D_L_law_33 18 rfl) (by decide) ?_
  refine v_iadd X (gD D_L_law_33 19 rfl) ?_
  obtain ⟨h389, hw⟩ := hw
  refine v_sld X hX h389 (gD D_L_law_33 20 rfl) ?_
  refine v_aload_n X 3 rfl (gD D_L_law_34 0 rfl) rfl ?_
  obtain ⟨k392, n393, k394, n395, h396, h397, hw⟩ := hw
  refine v_callW X (As := [va_rf (some as0), .int xs1, .int xs2, .int (xs (x4 + 3).toNatClampNeg), va_rf (some a3)]) (rest := []) (nA := 5) k392 n393 k394 n395 (fun ht => c_L_order htr (ht.sub [3, 2] rfl) hw) (Or.inr rfl) lk_sRL_192 (by decide +kernel) rfl rfl (by decide) (by decide) (by decide) h396 h397 (gD D_L_law_34 1 rfl) (fun x390 s391 hq hx hf => ?_)
  replace hw := hq hx hf
  clear hq hx hf
  refine v_istore X [(5, .int x390), (0, va_rf (some b)), (1, va_rf (some a1)), (2, va_rf (some a2)), (3, va_rf (some a3)), (4, .int x4)] (gD D_L_law_34 2 rfl) (by decide) rfl ?_
  refine v_aload_n X 3 rfl (gD D_L_law_34 3 rfl) rfl ?_
  refine v_aload_n X 1 rfl (gD D_L_law_34 4 rfl) rfl ?_
  refine v_iload X 5 rfl (gD D_L_law_34 5 rfl) ?_
  refine v_iconst X 1 (gD D_L_law_34 6 rfl) (by decide) ?_
  refine v_iadd X (gD D_L_law_34 7 rfl) ?_
  obtain ⟨h398, hw⟩ := hw
  refine v_sld X hX h398 (gD D_L_law_34 8 rfl) ?_
  refine v_aload_n X 1 rfl (gD D_L_law_34 9 rfl) rfl ?_
  refine v_iload X 5 rfl (gD D_L_law_34 10 rfl) ?_
  refine v_iconst X 2 (gD D_L_law_34 11 rfl) (by decide) ?_
  refine v_iadd X (gD D_L_law_34 12 rfl) ?_
  obtain ⟨h399, hw⟩ := hw
  refine v_sld X hX h399 (gD D_L_law_34 13 rfl) ?_
  refine v_if_eq X 1271 (gD D_L_law_34 14 rfl) (by decide) (fun c400 => ?_) (fun c400 => ?_)
  · replace hw := hw.1 c400
    refine v_iconst X 0 (gD D_L_law_34 17 rfl) (by decide) ?_
    exact v_sub [0, 1, 2, 1] [1, 2, 3, 4, 5, 0] rfl rfl (t_L_law_1272 X hr htr hX hsz hK23 a1 a2 a3 x4 x390 a2 (xs (x4 + 1).toNatClampNeg) 0 s391 k394 n395 hw)
  · replace hw := hw.2 c400
    refine v_iconst X 1 (gD D_L_law_34 15 rfl) (by decide) ?_
    refine v_goto X 1272 (gD D_L_law_34 16 rfl) (by decide) ?_
    exact v_sub [0, 1, 2, 1] [1, 2, 3, 4, 5, 0] rfl rfl (t_L_law_1272 X hr htr hX hsz hK23 a1 a2 a3 x4 x390 a2 (xs (x4 + 1).toNatClampNeg) 1 s391 k394 n395 hw)
set_option maxRecDepth 100000 in
set_option maxHeartbeats 4000000 in
theorem t_L_law_1218 {p : Program} {l : Launch} {e : Env} {s : State} {m : MethodId} {below : List Frame} {meth : Method} {c : Code} {G : GX} {σ0 : St} {b L : Nat} {xs : Nat → Int32} (X : VC p l room_1 s m #[Value.ref b] meth c G 11 601024 7293034 7 RL code) (hr : meth.sig.returnType = ret) (htr : l.stackTraces = false) (hX : va_X b L xs s s.heap ∧ b < s.heap.size ∧ ¬ GA G b) (hsz : ∀ q, GA G q → s.heap.size ≤ q) {K23 : Nat → Nat → Nat → Int32 → St → Nat → Nat → Prop} (hK23 : ∀ (a1 : Nat) (a2 : Nat) (a3 : Nat) (x4 : Int32) (σ : St) (k n : Nat), K23 a1 a2 a3 x4 σ k n → V p l e room_1 s m #[Value.ref b] below meth c (lw_Z below #[Value.ref b] s) G 0 σ0 601024 7293034 7 σ k n [(some a1, 12), (some a2, 13), (some a3, 23)] 23 [(0, va_rf (some b)), (1, va_rf (some a1)), (2, va_rf (some a2)), (3, va_rf (some a3)), (4, .int x4)] []) : ∀ (a1 : Nat) (a2 : Nat) (a3 : Nat) (x4 : Int32) (σ : St) (k n : Nat), w_L_law_1218 L xs K23 a1 a2 a3 x4 σ k n → V p l e room_1 s m #[Value.ref b] below meth c (lw_Z below #[Value.ref b] s) G 0 σ0 601024 7293034 7 σ k n [(some a1, 12), (some a2, 13), (some a3, 23)] 1218 [(0, va_rf (some b)), (1, va_rf (some a1)), (2, va_rf (some a2)), (3, va_rf (some a3)), (4, .int x4)] [] := by
  intro a1 a2 a3 x4 σ k n hw
  unfold w_L_law_1218 at hw
  refine v_aload_n X 1 rfl (gD D_L_law_33 1 rfl) rfl ?_
  refine v_aload_n X 0 rfl (gD D_L_law_33 2 rfl) rfl ?_
  refine v_iload X 4 rfl (gD D_L_law_33 3 rfl) ?_
  refine v_iconst X 1 (gD D_L_law_33 4 rfl) (by decide) ?_
  refine v_iadd X (gD D_L_law_33 5 rfl) ?_
  obtain ⟨h386, hw⟩ := hw
  refine v_sld X hX h386 (gD D_L_law_33 6 rfl) ?_
  refine v_aload_n X 0 rfl (gD D_L_law_33 7 rfl) rfl ?_
  refine v_iload X 4 rfl (gD D_L_law_33 8 rfl) ?_
  refine v_iconst X 2 (gD D_L_law_33 9 rfl) (by decide) ?_
  refine v_iadd X (gD D_L_law_33 10 rfl) ?_
  obtain ⟨h387, hw⟩ := hw
  refine v_sld X hX h387 (gD D_L_law_33 11 rfl) ?_
  refine v_if_eq X 1238 (gD D_L_law_33 12 rfl) (by decide) (fun c388 => ?_) (fun c388 => ?_)
  · replace hw := hw.1 c388
    refine v_iconst X 0 (gD D_L_law_33 15 rfl) (by decide) ?_
    exact v_sub [0, 1, 2, 0] [0, 1, 2, 3, 4] rfl rfl (t_L_law_1239 X hr htr hX hsz hK23 a1 a2 a3 x4 a1 (xs (x4 + 1).toNatClampNeg) 0 σ k n hw)
  · replace hw := hw.2 c388
    refine v_iconst X 1 (gD D_L_law_33 13 rfl) (by decide) ?_
    refine v_goto X 1239 (gD D_L_law_33 14 rfl) (by decide) ?_
    exact v_sub [0, 1, 2, 0] [0, 1, 2, 3, 4] rfl rfl (t_L_law_1239 X hr htr hX hsz hK23 a1 a2 a3 x4 a1 (xs (x4 + 1).toNatClampNeg) 1 σ k n hw)
set_option maxRecDepth 100000 in
set_option maxHeartbeats 4000000 in
theorem t_L_law_1314 {p : Program} {l : Launch} {e : Env} {s : State} {m : MethodId} {below : List Frame} {meth : Method} {c : Code} {G : GX} {σ0 : St} {b L : Nat} {xs : Nat → Int32} (X : VC p l room_1 s m #[Value.ref b] meth c G 11 601024 7293034 7 RL code) (hr : meth.sig.returnType = ret) (htr : l.stackTraces = false) (hX : va_X b L xs s s.heap ∧ b < s.heap.size ∧ ¬ GA G b) (hsz : ∀ q, GA G q → s.heap.size ≤ q) {K23 : Nat → Nat → Nat → Int32 → St → Nat → Nat → Prop} (hK23 : ∀ (a1 : Nat) (a2 : Nat) (a3 : Nat) (x4 : Int32) (σ : St) (k n : Nat), K23 a1 a2 a3 x4 σ k n → V p l e room_1 s m #[Value.ref b] below meth c (lw_Z below #[Value.ref b] s) G 0 σ0 601024 7293034 7 σ k n [(some a1, 12), (some a2, 13), (some a3, 23)] 23 [(0, va_rf (some b)), (1, va_rf (some a1)), (2, va_rf (some a2)), (3, va_rf (some a3)), (4, .int x4)] []) : ∀ (a1 : Nat) (a2 : Nat) (a3 : Nat) (x4 : Int32) (σ : St) (k n : Nat), w_L_law_1314 L xs K23 a1 a2 a3 x4 σ k n → V p l e room_1 s m #[Value.ref b] below meth c (lw_Z below #[Value.ref b] s) G 0 σ0 601024 7293034 7 σ k n [(some a1, 12), (some a2, 13), (some a3, 23)] 1314 [(0, va_rf (some b)), (1, va_rf (some a1)), (2, va_rf (some a2)), (3, va_rf (some a3)), (4, .int x4)] [] := by
  intro a1 a2 a3 x4 σ k n hw
  unfold w_L_law_1314 at hw
  refine v_aload_n X 1 rfl (gD D_L_law_36 1 rfl) rfl ?_
  refine v_aload_n X 0 rfl (gD D_L_law_36 2 rfl) rfl ?_
  refine v_iload X 4 rfl (gD D_L_law_36 3 rfl) ?_
  refine v_iconst X 1 (gD D_L_law_36 4 rfl) (by decide) ?_
  refine v_iadd X (gD D_L_law_36 5 rfl) ?_
  obtain ⟨h410, hw⟩ := hw
  refine v_sld X hX h410 (gD D_L_law_36 6 rfl) ?_
  refine v_aload_n X 0 rfl (gD D_L_law_36 7 rfl) rfl ?_
  refine v_iload X 4 rfl (gD D_L_law_36 8 rfl) ?_
  refine v_iconst X 2 (gD D_L_law_36 9 rfl) (by decide) ?_
  refine v_iadd X (gD D_L_law_36 10 rfl) ?_
  obtain ⟨h411, hw⟩ := hw
  refine v_sld X hX h411 (gD D_L_law_36 11 rfl) ?_
  refine v_aload_n X 0 rfl (gD D_L_law_36 12 rfl) rfl ?_
  refine v_iload X 4 rfl (gD D_L_law_36 13 rfl) ?_
  refine v_iconst X 3 (gD D_L_law_36 14 rfl) (by decide) ?_
  refine v_iadd X (gD D_L_law_36 15 rfl) ?_
  obtain ⟨h412, hw⟩ := hw
  refine v_sld X hX h412 (gD D_L_law_36 16 rfl) ?_
  refine v_aload_n X 3 rfl (gD D_L_law_36 17 rfl) rfl ?_
  obtain ⟨k415, n416, k417, n418, h419, h420, hw⟩ := hw
  refine v_callW X (As := [va_rf (some a1), .int (xs (x4 + 1).toNatClampNeg), .int (xs (x4 + 2).toNatClampNeg), .int (xs (x4 + 3).toNatClampNeg), va_rf (some a3)]) (rest := []) (nA := 5) k415 n416 k417 n418 (fun ht => c_L_line htr (ht.sub [0, 2] rfl) hw) (Or.inr rfl) lk_sRL_196 (by decide +kernel) rfl rfl (by decide) (by decide) (by decide) h419 h420 (gD D_L_law_36 18 rfl) (fun x413 s414 hq hx hf => ?_)
  replace hw := hq hx hf
  clear hq hx hf
  refine v_istore X [(5, .int x413), (0, va_rf (some b)), (1, va_rf (some a1)), (2, va_rf (some a2)), (3, va_rf (some a3)), (4, .int x4)] (gD D_L_law_36 19 rfl) (by decide) rfl ?_
  refine v_aload_n X 3 rfl (gD D_L_law_36 20 rfl) rfl ?_
  refine v_aload_n X 1 rfl (gD D_L_law_37 0 rfl) rfl ?_
  refine v_iload X 5 rfl (gD D_L_law_37 1 rfl) ?_
  refine v_iconst X 1 (gD D_L_law_37 2 rfl) (by decide) ?_
  refine v_iadd X (gD D_L_law_37 3 rfl) ?_
  obtain ⟨h421, hw⟩ := hw
  refine v_sld X hX h421 (gD D_L_law_37 4 rfl) ?_
  refine v_aload_n X 1 rfl (gD D_L_law_37 5 rfl) rfl ?_
  refine v_iload X 5 rfl (gD D_L_law_37 6 rfl) ?_
  refine v_iconst X 2 (gD D_L_law_37 7 rfl) (by decide) ?_
  refine v_iadd X (gD D_L_law_37 8 rfl) ?_
  obtain ⟨h422, hw⟩ := hw
  refine v_sld X hX h422 (gD D_L_law_37 9 rfl) ?_
  refine v_aload_n X 1 rfl (gD D_L_law_37 10 rfl) rfl ?_
  refine v_iload X 5 rfl (gD D_L_law_37 11 rfl) ?_
  refine v_iconst X 3 (gD D_L_law_37 12 rfl) (by decide) ?_
  refine v_iadd X (gD D_L_law_37 13 rfl) ?_
  obtain ⟨h423, hw⟩ := hw
  refine v_sld X hX h423 (gD D_L_law_37 14 rfl) ?_
  refine v_callVi X (As := [.int (xs (x4 + 1).toNatClampNeg), .int (xs (x4 + 2).toNatClampNeg), .int (xs (x4 + 3).toNatClampNeg)]) (rest := []) (nA := 3) 0 0 k417 n418 (fun ht => c_X12_line htr (ht.sub [1] rfl) hw) (Or.inr rfl) 1 (κ := 13) rfl (by decide) (rfl : gCl[12]? = some (RX12, TX12, 65)) lk_vRL_198 (by decide +kernel) rfl rfl (by decide) (by decide) (by decide) rfl rfl (gD D_L_law_37 15 rfl) (fun x424 s425 hq hx hf => ?_)
  replace hw := hq hx hf
  clear hq hx hf
  refine v_istore X [(6, .int x424), (5, .int x413), (0, va_rf (some b)), (1, va_rf (some a1)), (2, va_rf (some a2)), (3, va_rf (some a3)), (4, .int x4)] (gD D_L_law_37 16 rfl) (by decide) rfl ?_
  refine v_aload_n X 4 rfl (gD D_L_law_37 17 rfl) rfl ?_
  refine v_callVi X (As := []) (rest := []) (nA := 0) 0 0 k417 n418 (fun ht => c_X12_thrown htr (ht.sub [1] rfl) hw) (Or.inr rfl) 1 (κ := 13) rfl (by decide) (rfl : gCl[12]? = some (RX12, TX12, 65)) lk_vRL_139 (by decide +kernel) rfl rfl (by decide) (by decide) (by decide) rfl rfl (gD D_L_law_37 18 rfl) (fun x426 s427 hq hx hf => ?_)
  replace hw := hq hx hf
  clear hq hx hf
  refine v_iload X 1 rfl (gD D_L_law_37 19 rfl) ?_
  refine v_icmp_eq X 1374 (gD D_L_law_37 20 rfl) (by decide) (fun c428 => ?_) (fun c428 => ?_)
  · replace hw := hw.1 c428
    refine v_iload X 1 rfl (gD D_L_law_38 2 rfl) ?_
    refine v_if_ne X 1391 (gD D_L_law_38 3 rfl) (by decide) (fun c429 => ?_) (fun c429 => ?_)
    · replace hw := hw.1 c429
      refine v_goto X 2730 (gD D_L_law_38 13 rfl) (by decide) ?_
      refine v_iinc X (x4 + 7) 6 rfl [(4, .int (x4 + 7)), (6, .int x424), (5, .int x413), (0, va_rf (some b)), (1, va_rf (some a1)), (2, va_rf (some a2)), (3, va_rf (some a3))] (gD D_L_law_80 3 rfl) rfl (by decide) rfl ?_
      refine v_goto X 23 (gD D_L_law_80 4 rfl) (by decide) ?_
      exact v_sub [0, 1, 2] [3, 4, 5, 6, 0] rfl rfl (hK23 a1 a2 a3 (x4 + 7) s427 k417 n418 hw)
    · replace hw := hw.2 c429
      refine v_aload_n X 5 rfl (gD D_L_law_38 4 rfl) rfl ?_
      refine v_iconst X 0 (gD D_L_law_38 5 rfl) (by decide) ?_
      obtain ⟨h430, hw⟩ := hw
      refine v_lald X 2 rfl h430 (gD D_L_law_38 6 rfl) ?_
      refine v_iload X 0 rfl (gD D_L_law_38 7 rfl) ?_
      refine v_i2l X (gD D_L_law_38 8 rfl) ?_
      refine v_lcmp X (gD D_L_law_38 9 rfl) ?_
      refine v_if_eq X 1391 (gD D_L_law_38 10 rfl) (by decide) (fun c431 => ?_) (fun c431 => ?_)
      · replace hw := hw.1 c431
        refine v_goto X 2730 (gD D_L_law_38 13 rfl) (by decide) ?_
        refine v_iinc X (x4 + 7) 6 rfl [(4, .int (x4 + 7)), (6, .int x424), (5, .int x413), (0, va_rf (some b)), (1, va_rf (some a1)), (2, va_rf (some a2)), (3, va_rf (some a3))] (gD D_L_law_80 3 rfl) rfl (by decide) rfl ?_
        refine v_goto X 23 (gD D_L_law_80 4 rfl) (by decide) ?_
        exact v_sub [0, 1, 2] [3, 4, 5, 6, 0] rfl rfl (hK23 a1 a2 a3 (x4 + 7) s427 k417 n418 hw)
      · replace hw := hw.2 c431
        refine v_iconst X 0 (gD D_L_law_38 11 rfl) (by decide) ?_
        exact hw.elim
  · replace hw := hw.2 c428
    refine v_iconst X 0 (gD D_L_law_38 0 rfl) (by decide) ?_
    exact hw.elim
set_option maxRecDepth 100000 in
set_option maxHeartbeats 4000000 in
theorem t_L_law_1394 {p : Program} {l : Launch} {e : Env} {s : State} {m : MethodId} {below : List Frame} {meth : Method} {c : Code} {G : GX} {σ0 : St} {b L : Nat} {xs : Nat → Int32} (X : VC p l room_1 s m #[Value.ref b] meth c G 11 601024 7293034 7 RL code) (hr : meth.sig.returnType = ret) (htr : l.stackTraces = false) (hX : va_X b L xs s s.heap ∧ b < s.heap.size ∧ ¬ GA G b) (hsz : ∀ q, GA G q → s.heap.size ≤ q) {K23 : Nat → Nat → Nat → Int32 → St → Nat → Nat → Prop} (hK23 : ∀ (a1 : Nat) (a2 : Nat) (a3 : Nat) (x4 : Int32) (σ : St) (k n : Nat), K23 a1 a2 a3 x4 σ k n → V p l e room_1 s m #[Value.ref b] below meth c (lw_Z below #[Value.ref b] s) G 0 σ0 601024 7293034 7 σ k n [(some a1, 12), (some a2, 13), (some a3, 23)] 23 [(0, va_rf (some b)), (1, va_rf (some a1)), (2, va_rf (some a2)), (3, va_rf (some a3)), (4, .int x4)] []) : ∀ (a1 : Nat) (a2 : Nat) (a3 : Nat) (x4 : Int32) (σ : St) (k n : Nat), w_L_law_1394 L xs K23 a1 a2 a3 x4 σ k n → V p l e room_1 s m #[Value.ref b] below meth c (lw_Z below #[Value.ref b] s) G 0 σ0 601024 7293034 7 σ k n [(some a1, 12), (some a2, 13), (some a3, 23)] 1394 [(0, va_rf (some b)), (1, va_rf (some a1)), (2, va_rf (some a2)), (3, va_rf (some a3)), (4, .int x4)] [] := by
  intro a1 a2 a3 x4 σ k n hw
  unfold w_L_law_1394 at hw
  refine v_aload_n X 1 rfl (gD D_L_law_38 14 rfl) rfl ?_
  obtain ⟨k434, n435, k436, n437, h438, h439, hw⟩ := hw
  refine v_callVi X (As := []) (rest := []) (nA := 0) k434 n435 k436 n437 (fun ht => c_X11_allocate htr (ht.sub [0] rfl) hw) (Or.inr rfl) 0 (κ := 12) rfl (by decide) (rfl : gCl[11]? = some (RX11, TX11, 19)) lk_vRL_199 (by decide +kernel) rfl rfl (by decide) (by decide) (by decide) h438 h439 (gD D_L_law_38 15 rfl) (fun x432 s433 hq hx hf => ?_)
  replace hw := hq hx hf
  clear hq hx hf
  refine v_aload_n X 2 rfl (gD D_L_law_38 16 rfl) rfl ?_
  refine v_callVi X (As := []) (rest := [.int x432]) (nA := 0) 0 0 k436 n437 (fun ht => c_X12_allocate htr (ht.sub [1] rfl) hw) (Or.inr rfl) 1 (κ := 13) rfl (by decide) (rfl : gCl[12]? = some (RX12, TX12, 65)) lk_vRL_202 (by decide +kernel) rfl rfl (by simp [rf_cat, ct_i]) (by decide) (by decide) rfl rfl (gD D_L_law_38 17 rfl) (fun x440 s441 hq hx hf => ?_)
  replace hw := hq hx hf
  clear hq hx hf
  refine v_icmp_eq X 2730 (gD D_L_law_38 18 rfl) (by decide) (fun c442 => ?_) (fun c442 => ?_)
  · replace hw := hw.1 c442
    refine v_iinc X (x4 + 7) 4 rfl [(4, .int (x4 + 7)), (0, va_rf (some b)), (1, va_rf (some a1)), (2, va_rf (some a2)), (3, va_rf (some a3))] (gD D_L_law_80 3 rfl) rfl (by decide) rfl ?_
    refine v_goto X 23 (gD D_L_law_80 4 rfl) (by decide) ?_
    exact v_sub [0, 1, 2] [1, 2, 3, 4, 0] rfl rfl (hK23 a1 a2 a3 (x4 + 7) s441 k436 n437 hw)
  · replace hw := hw.2 c442
    refine v_iconst X 0 (gD D_L_law_38 19 rfl) (by decide) ?_
    exact hw.elim
set_option maxRecDepth 100000 in
set_option maxHeartbeats 4000000 in
theorem t_L_law_1407 {p : Program} {l : Launch} {e : Env} {s : State} {m : MethodId} {below : List Frame} {meth : Method} {c : Code} {G : GX} {σ0 : St} {b L : Nat} {xs : Nat → Int32} (X : VC p l room_1 s m #[Value.ref b] meth c G 11 601024 7293034 7 RL code) (hr : meth.sig.returnType = ret) (htr : l.stackTraces = false) (hX : va_X b L xs s s.heap ∧ b < s.heap.size ∧ ¬ GA G b) (hsz : ∀ q, GA G q → s.heap.size ≤ q) {K23 : Nat → Nat → Nat → Int32 → St → Nat → Nat → Prop} (hK23 : ∀ (a1 : Nat) (a2 : Nat) (a3 : Nat) (x4 : Int32) (σ : St) (k n : Nat), K23 a1 a2 a3 x4 σ k n → V p l e room_1 s m #[Value.ref b] below meth c (lw_Z below #[Value.ref b] s) G 0 σ0 601024 7293034 7 σ k n [(some a1, 12), (some a2, 13), (some a3, 23)] 23 [(0, va_rf (some b)), (1, va_rf (some a1)), (2, va_rf (some a2)), (3, va_rf (some a3)), (4, .int x4)] []) : ∀ (a1 : Nat) (a2 : Nat) (a3 : Nat) (x4 : Int32) (σ : St) (k n : Nat), w_L_law_1407 L xs K23 a1 a2 a3 x4 σ k n → V p l e room_1 s m #[Value.ref b] below meth c (lw_Z below #[Value.ref b] s) G 0 σ0 601024 7293034 7 σ k n [(some a1, 12), (some a2, 13), (some a3, 23)] 1407 [(0, va_rf (some b)), (1, va_rf (some a1)), (2, va_rf (some a2)), (3, va_rf (some a3)), (4, .int x4)] [] := by
  intro a1 a2 a3 x4 σ k n hw
  unfold w_L_law_1407 at hw
  refine v_aload_n X 1 rfl (gD D_L_law_39 0 rfl) rfl ?_
  refine v_aload_n X 0 rfl (gD D_L_law_39 1 rfl) rfl ?_
  refine v_iload X 4 rfl (gD D_L_law_39 2 rfl) ?_
  refine v_iconst X 1 (gD D_L_law_39 3 rfl) (by decide) ?_
  refine v_iadd X (gD D_L_law_39 4 rfl) ?_
  obtain ⟨h443, hw⟩ := hw
  refine v_sld X hX h443 (gD D_L_law_39 5 rfl) ?_
  refine v_aload_n X 0 rfl (gD D_L_law_39 6 rfl) rfl ?_
  refine v_iload X 4 rfl (gD D_L_law_39 7 rfl) ?_
  refine v_iconst X 2 (gD D_L_law_39 8 rfl) (by decide) ?_
  refine v_iadd X (gD D_L_law_39 9 rfl) ?_
  obtain ⟨h444, hw⟩ := hw
  refine v_sld X hX h444 (gD D_L_law_39 10 rfl) ?_
  refine v_aload_n X 3 rfl (gD D_L_law_39 11 rfl) rfl ?_
  obtain ⟨k447, n448, k449, n450, h451, h452, hw⟩ := hw
  refine v_callW X (As := [va_rf (some a1), .int (xs (x4 + 1).toNatClampNeg), .int (xs (x4 + 2).toNatClampNeg), va_rf (some a3)]) (rest := []) (nA := 4) k447 n448 k449 n450 (fun ht => c_L_lacks htr (ht.sub [0, 2] rfl) hw) (Or.inr rfl) lk_sRL_203 (by decide +kernel) rfl rfl (by decide) (by decide) (by decide) h451 h452 (gD D_L_law_39 12 rfl) (fun x445 s446 hq hx hf => ?_)
  replace hw := hq hx hf
  clear hq hx hf
  refine v_istore X [(5, .int x445), (0, va_rf (some b)), (1, va_rf (some a1)), (2, va_rf (some a2)), (3, va_rf (some a3)), (4, .int x4)] (gD D_L_law_39 13 rfl) (by decide) rfl ?_
  refine v_aload_n X 3 rfl (gD D_L_law_39 14 rfl) rfl ?_
  refine v_aload_n X 1 rfl (gD D_L_law_39 15 rfl) rfl ?_
  refine v_iload X 5 rfl (gD D_L_law_39 16 rfl) ?_
  refine v_iconst X 1 (gD D_L_law_39 17 rfl) (by decide) ?_
  refine v_iadd X (gD D_L_law_39 18 rfl) ?_
  obtain ⟨h453, hw⟩ := hw
  refine v_sld X hX h453 (gD D_L_law_39 19 rfl) ?_
  refine v_aload_n X 1 rfl (gD D_L_law_39 20 rfl) rfl ?_
  refine v_iload X 5 rfl (gD D_L_law_40 0 rfl) ?_
  refine v_iconst X 2 (gD D_L_law_40 1 rfl) (by decide) ?_
  refine v_iadd X (gD D_L_law_40 2 rfl) ?_
  obtain ⟨h454, hw⟩ := hw
  refine v_sld X hX h454 (gD D_L_law_40 3 rfl) ?_
  refine v_callVi X (As := [.int (xs (x4 + 1).toNatClampNeg), .int (xs (x4 + 2).toNatClampNeg)]) (rest := []) (nA := 2) 0 0 k449 n450 (fun ht => c_X12_lacks htr (ht.sub [1] rfl) hw) (Or.inr rfl) 1 (κ := 13) rfl (by decide) (rfl : gCl[12]? = some (RX12, TX12, 65)) lk_vRL_205 (by decide +kernel) rfl rfl (by decide) (by decide) (by decide) rfl rfl (gD D_L_law_40 4 rfl) (fun x455 s456 hq hx hf => ?_)
  replace hw := hq hx hf
  clear hq hx hf
  refine v_istore X [(6, .int x455), (5, .int x445), (0, va_rf (some b)), (1, va_rf (some a1)), (2, va_rf (some a2)), (3, va_rf (some a3)), (4, .int x4)] (gD D_L_law_40 5 rfl) (by decide) rfl ?_
  refine v_aload_n X 4 rfl (gD D_L_law_40 6 rfl) rfl ?_
  refine v_callVi X (As := []) (rest := []) (nA := 0) 0 0 k449 n450 (fun ht => c_X12_thrown htr (ht.sub [1] rfl) hw) (Or.inr rfl) 1 (κ := 13) rfl (by decide) (rfl : gCl[12]? = some (RX12, TX12, 65)) lk_vRL_139 (by decide +kernel) rfl rfl (by decide) (by decide) (by decide) rfl rfl (gD D_L_law_40 7 rfl) (fun x457 s458 hq hx hf => ?_)
  replace hw := hq hx hf
  clear hq hx hf
  refine v_iload X 1 rfl (gD D_L_law_40 8 rfl) ?_
  refine v_icmp_eq X 1455 (gD D_L_law_40 9 rfl) (by decide) (fun c459 => ?_) (fun c459 => ?_)
  · replace hw := hw.1 c459
    refine v_iload X 1 rfl (gD D_L_law_40 12 rfl) ?_
    refine v_if_ne X 1472 (gD D_L_law_40 13 rfl) (by decide) (fun c460 => ?_) (fun c460 => ?_)
    · replace hw := hw.1 c460
      refine v_goto X 2730 (gD D_L_law_41 2 rfl) (by decide) ?_
      refine v_iinc X (x4 + 7) 6 rfl [(4, .int (x4 + 7)), (6, .int x455), (5, .int x445), (0, va_rf (some b)), (1, va_rf (some a1)), (2, va_rf (some a2)), (3, va_rf (some a3))] (gD D_L_law_80 3 rfl) rfl (by decide) rfl ?_
      refine v_goto X 23 (gD D_L_law_80 4 rfl) (by decide) ?_
      exact v_sub [0, 1, 2] [3, 4, 5, 6, 0] rfl rfl (hK23 a1 a2 a3 (x4 + 7) s458 k449 n450 hw)
    · replace hw := hw.2 c460
      refine v_aload_n X 5 rfl (gD D_L_law_40 14 rfl) rfl ?_
      refine v_iconst X 0 (gD D_L_law_40 15 rfl) (by decide) ?_
      obtain ⟨h461, hw⟩ := hw
      refine v_lald X 2 rfl h461 (gD D_L_law_40 16 rfl) ?_
      refine v_iload X 0 rfl (gD D_L_law_40 17 rfl) ?_
      refine v_i2l X (gD D_L_law_40 18 rfl) ?_
      refine v_lcmp X (gD D_L_law_40 19 rfl) ?_
      refine v_if_eq X 1472 (gD D_L_law_40 20 rfl) (by decide) (fun c462 => ?_) (fun c462 => ?_)
      · replace hw := hw.1 c462
        refine v_goto X 2730 (gD D_L_law_41 2 rfl) (by decide) ?_
        refine v_iinc X (x4 + 7) 6 rfl [(4, .int (x4 + 7)), (6, .int x455), (5, .int x445), (0, va_rf (some b)), (1, va_rf (some a1)), (2, va_rf (some a2)), (3, va_rf (some a3))] (gD D_L_law_80 3 rfl) rfl (by decide) rfl ?_
        refine v_goto X 23 (gD D_L_law_80 4 rfl) (by decide) ?_
        exact v_sub [0, 1, 2] [3, 4, 5, 6, 0] rfl rfl (hK23 a1 a2 a3 (x4 + 7) s458 k449 n450 hw)
      · replace hw := hw.2 c462
        refine v_iconst X 0 (gD D_L_law_41 0 rfl) (by decide) ?_
        exact hw.elim
  · replace hw := hw.2 c459
    refine v_iconst X 0 (gD D_L_law_40 10 rfl) (by decide) ?_
    exact hw.elim
set_option maxRecDepth 100000 in
set_option maxHeartbeats 4000000 in
theorem t_L_law_1475 {p : Program} {l : Launch} {e : Env} {s : State} {m : MethodId} {below : List Frame} {meth : Method} {c : Code} {G : GX} {σ0 : St} {b L : Nat} {xs : Nat → Int32} (X : VC p l room_1 s m #[Value.ref b] meth c G 11 601024 7293034 7 RL code) (hr : meth.sig.returnType = ret) (htr : l.stackTraces = false) (hX : va_X b L xs s s.heap ∧ b < s.heap.size ∧ ¬ GA G b) (hsz : ∀ q, GA G q → s.heap.size ≤ q) {K23 : Nat → Nat → Nat → Int32 → St → Nat → Nat → Prop} (hK23 : ∀ (a1 : Nat) (a2 : Nat) (a3 : Nat) (x4 : Int32) (σ : St) (k n : Nat), K23 a1 a2 a3 x4 σ k n → V p l e room_1 s m #[Value.ref b] below meth c (lw_Z below #[Value.ref b] s) G 0 σ0 601024 7293034 7 σ k n [(some a1, 12), (some a2, 13), (some a3, 23)] 23 [(0, va_rf (some b)), (1, va_rf (some a1)), (2, va_rf (some a2)), (3, va_rf (some a3)), (4, .int x4)] []) : ∀ (a1 : Nat) (a2 : Nat) (a3 : Nat) (x4 : Int32) (σ : St) (k n : Nat), w_L_law_1475 L xs K23 a1 a2 a3 x4 σ k n → V p l e room_1 s m #[Value.ref b] below meth c (lw_Z below #[Value.ref b] s) G 0 σ0 601024 7293034 7 σ k n [(some a1, 12), (some a2, 13), (some a3, 23)] 1475 [(0, va_rf (some b)), (1, va_rf (some a1)), (2, va_rf (some a2)), (3, va_rf (some a3)), (4, .int x4)] [] := by
  intro a1 a2 a3 x4 σ k n hw
  unfold w_L_law_1475 at hw
  refine v_aload_n X 1 rfl (gD D_L_law_41 3 rfl) rfl ?_
  refine v_aload_n X 0 rfl (gD D_L_law_41 4 rfl) rfl ?_
  refine v_iload X 4 rfl (gD D_L_law_41 5 rfl) ?_
  refine v_iconst X 1 (gD D_L_law_41 6 rfl) (by decide) ?_
  refine v_iadd X (gD D_L_law_41 7 rfl) ?_
  obtain ⟨h463, hw⟩ := hw
  refine v_sld X hX h463 (gD D_L_law_41 8 rfl) ?_
  refine v_aload_n X 0 rfl (gD D_L_law_41 9 rfl) rfl ?_
  refine v_iload X 4 rfl (gD D_L_law_41 10 rfl) ?_
  refine v_iconst X 2 (gD D_L_law_41 11 rfl) (by decide) ?_
  refine v_iadd X (gD D_L_law_41 12 rfl) ?_
  obtain ⟨h464, hw⟩ := hw
  refine v_sld X hX h464 (gD D_L_law_41 13 rfl) ?_
  refine v_aload_n X 0 rfl (gD D_L_law_41 14 rfl) rfl ?_
  refine v_iload X 4 rfl (gD D_L_law_41 15 rfl) ?_
  refine v_iconst X 3 (gD D_L_law_41 16 rfl) (by decide) ?_
  refine v_iadd X (gD D_L_law_41 17 rfl) ?_
  obtain ⟨h465, hw⟩ := hw
  refine v_sld X hX h465 (gD D_L_law_41 18 rfl) ?_
  refine v_aload_n X 3 rfl (gD D_L_law_41 19 rfl) rfl ?_
  obtain ⟨k468, n469, k470, n471, h472, h473, hw⟩ := hw
  refine v_callW X (As := [va_rf (some a1), .int (xs (x4 + 1).toNatClampNeg), .int (xs (x4 + 2).toNatClampNeg), .int (xs (x4 + 3).toNatClampNeg), va_rf (some a3)]) (rest := []) (nA := 5) k468 n469 k470 n471 (fun ht => c_L_held htr (ht.sub [0, 2] rfl) hw) (Or.inr rfl) lk_sRL_206 (by decide +kernel) rfl rfl (by decide) (by decide) (by decide) h472 h473 (gD D_L_law_41 20 rfl) (fun x466 s467 hq hx hf => ?_)
  replace hw := hq hx hf
  clear hq hx hf
  refine v_istore X [(5, .int x466), (0, va_rf (some b)), (1, va_rf (some a1)), (2, va_rf (some a2)), (3, va_rf (some a3)), (4, .int x4)] (gD D_L_law_42 0 rfl) (by decide) rfl ?_
  refine v_aload_n X 3 rfl (gD D_L_law_42 1 rfl) rfl ?_
  refine v_aload_n X 1 rfl (gD D_L_law_42 2 rfl) rfl ?_
  refine v_iload X 5 rfl (gD D_L_law_42 3 rfl) ?_
  refine v_iconst X 1 (gD D_L_law_42 4 rfl) (by decide) ?_
  refine v_iadd X (gD D_L_law_42 5 rfl) ?_
  obtain ⟨h474, hw⟩ := hw
  refine v_sld X hX h474 (gD D_L_law_42 6 rfl) ?_
  refine v_aload_n X 1 rfl (gD D_L_law_42 7 rfl) rfl ?_
  refine v_iload X 5 rfl (gD D_L_law_42 8 rfl) ?_
  refine v_iconst X 2 (gD D_L_law_42 9 rfl) (by decide) ?_
  refine v_iadd X (gD D_L_law_42 10 rfl) ?_
  obtain ⟨h475, hw⟩ := hw
  refine v_sld X hX h475 (gD D_L_law_42 11 rfl) ?_
  refine v_aload_n X 1 rfl (gD D_L_law_42 12 rfl) rfl ?_
  refine v_iload X 5 rfl (gD D_L_law_42 13 rfl) ?_
  refine v_iconst X 3 (gD D_L_law_42 14 rfl) (by decide) ?_
  refine v_iadd X (gD D_L_law_42 15 rfl) ?_
  obtain ⟨h476, hw⟩ := hw
  refine v_sld X hX h476 (gD D_L_law_42 16 rfl) ?_
  refine v_callVi X (As := [.int (xs (x4 + 1).toNatClampNeg), .int (xs (x4 + 2).toNatClampNeg), .int (xs (x4 + 3).toNatClampNeg)]) (rest := []) (nA := 3) 0 0 k470 n471 (fun ht => c_X12_held htr (ht.sub [1] rfl) hw) (Or.inr rfl) 1 (κ := 13) rfl (by decide) (rfl : gCl[12]? = some (RX12, TX12, 65)) lk_vRL_208 (by decide +kernel) rfl rfl (by decide) (by decide) (by decide) rfl rfl (gD D_L_law_42 17 rfl) (fun x477 s478 hq hx hf => ?_)
  replace hw := hq hx hf
  clear hq hx hf
  refine v_istore X [(6, .int x477), (5, .int x466), (0, va_rf (some b)), (1, va_rf (some a1)), (2, va_rf (some a2)), (3, va_rf (some a3)), (4, .int x4)] (gD D_L_law_42 18 rfl) (by decide) rfl ?_
  refine v_aload_n X 4 rfl (gD D_L_law_42 19 rfl) rfl ?_
  refine v_callVi X (As := []) (rest := []) (nA := 0) 0 0 k470 n471 (fun ht => c_X12_thrown htr (ht.sub [1] rfl) hw) (Or.inr rfl) 1 (κ := 13) rfl (by decide) (rfl : gCl[12]? = some (RX12, TX12, 65)) lk_vRL_139 (by decide +kernel) rfl rfl (by decide) (by decide) (by decide) rfl rfl (gD D_L_law_42 20 rfl) (fun x479 s480 hq hx hf => ?_)
  replace hw := hq hx hf
  clear hq hx hf
  refine v_iload X 1 rfl (gD D_L_law_43 0 rfl) ?_
  refine v_icmp_eq X 1535 (gD D_L_law_43 1 rfl) (by decide) (fun c481 => ?_) (fun c481 => ?_)
  · replace hw := hw.1 c481
    refine v_iload X 1 rfl (gD D_L_law_43 4 rfl) ?_
    refine v_if_ne X 1552 (gD D_L_law_43 5 rfl) (by decide) (fun c482 => ?_) (fun c482 => ?_)
    · replace hw := hw.1 c482
      refine v_goto X 2730 (gD D_L_law_43 15 rfl) (by decide) ?_
      refine v_iinc X (x4 + 7) 6 rfl [(4, .int (x4 + 7)), (6, .int x477), (5, .int x466), (0, va_rf (some b)), (1, va_rf (some a1)), (2, va_rf (some a2)), (3, va_rf (some a3))] (gD D_L_law_80 3 rfl) rfl (by decide) rfl ?_
      refine v_goto X 23 (gD D_L_law_80 4 rfl) (by decide) ?_
      exact v_sub [0, 1, 2] [3, 4, 5, 6, 0] rfl rfl (hK23 a1 a2 a3 (x4 + 7) s480 k470 n471 hw)
    · replace hw := hw.2 c482
      refine v_aload_n X 5 rfl (gD D_L_law_43 6 rfl) rfl ?_
      refine v_iconst X 0 (gD D_L_law_43 7 rfl) (by decide) ?_
      obtain ⟨h483, hw⟩ := hw
      refine v_lald X 2 rfl h483 (gD D_L_law_43 8 rfl) ?_
      refine v_iload X 0 rfl (gD D_L_law_43 9 rfl) ?_
      refine v_i2l X (gD D_L_law_43 10 rfl) ?_
      refine v_lcmp X (gD D_L_law_43 11 rfl) ?_
      refine v_if_eq X 1552 (gD D_L_law_43 12 rfl) (by decide) (fun c484 => ?_) (fun c484 => ?_)
      · replace hw := hw.1 c484
        refine v_goto X 2730 (gD D_L_law_43 15 rfl) (by decide) ?_
        refine v_iinc X (x4 + 7) 6 rfl [(4, .int (x4 + 7)), (6, .int x477), (5, .int x466), (0, va_rf (some b)), (1, va_rf (some a1)), (2, va_rf (some a2)), (3, va_rf (some a3))] (gD D_L_law_80 3 rfl) rfl (by decide) rfl ?_
        refine v_goto X 23 (gD D_L_law_80 4 rfl) (by decide) ?_
        exact v_sub [0, 1, 2] [3, 4, 5, 6, 0] rfl rfl (hK23 a1 a2 a3 (x4 + 7) s480 k470 n471 hw)
      · replace hw := hw.2 c484
        refine v_iconst X 0 (gD D_L_law_43 13 rfl) (by decide) ?_
        exact hw.elim
  · replace hw := hw.2 c481
    refine v_iconst X 0 (gD D_L_law_43 2 rfl) (by decide) ?_
    exact hw.elim
set_option maxRecDepth 100000 in
set_option maxHeartbeats 4000000 in
theorem t_L_law_1555 {p : Program} {l : Launch} {e : Env} {s : State} {m : MethodId} {below : List Frame} {meth : Method} {c : Code} {G : GX} {σ0 : St} {b L : Nat} {xs : Nat → Int32} (X : VC p l room_1 s m #[Value.ref b] meth c G 11 601024 7293034 7 RL code) (hr : meth.sig.returnType = ret) (htr : l.stackTraces = false) (hX : va_X b L xs s s.heap ∧ b < s.heap.size ∧ ¬ GA G b) (hsz : ∀ q, GA G q → s.heap.size ≤ q) {K23 : Nat → Nat → Nat → Int32 → St → Nat → Nat → Prop} (hK23 : ∀ (a1 : Nat) (a2 : Nat) (a3 : Nat) (x4 : Int32) (σ : St) (k n : Nat), K23 a1 a2 a3 x4 σ k n → V p l e room_1 s m #[Value.ref b] below meth c (lw_Z below #[Value.ref b] s) G 0 σ0 601024 7293034 7 σ k n [(some a1, 12), (some a2, 13), (some a3, 23)] 23 [(0, va_rf (some b)), (1, va_rf (some a1)), (2, va_rf (some a2)), (3, va_rf (some a3)), (4, .int x4)] []) : ∀ (a1 : Nat) (a2 : Nat) (a3 : Nat) (x4 : Int32) (σ : St) (k n : Nat), w_L_law_1555 L xs K23 a1 a2 a3 x4 σ k n → V p l e room_1 s m #[Value.ref b] below meth c (lw_Z below #[Value.ref b] s) G 0 σ0 601024 7293034 7 σ k n [(some a1, 12), (some a2, 13), (some a3, 23)] 1555 [(0, va_rf (some b)), (1, va_rf (some a1)), (2, va_rf (some a2)), (3, va_rf (some a3)), (4, .int x4)] [] := by
  intro a1 a2 a3 x4 σ k n hw
  unfold w_L_law_1555 at hw
  refine v_aload_n X 1 rfl (gD D_L_law_43 16 rfl) rfl ?_
  refine v_aload_n X 0 rfl (gD D_L_law_43 17 rfl) rfl ?_
  refine v_iload X 4 rfl (gD D_L_law_43 18 rfl) ?_
  refine v_iconst X 1 (gD D_L_law_43 19 rfl) (by decide) ?_
  refine v_iadd X (gD D_L_law_43 20 rfl) ?_
  obtain ⟨h485, hw⟩ := hw
  refine v_sld X hX h485 (gD D_L_law_44 0 rfl) ?_
  refine v_aload_n X 0 rfl (gD D_L_law_44 1 rfl) rfl ?_
  refine v_iload X 4 rfl (gD D_L_law_44 2 rfl) ?_
  refine v_iconst X 2 (gD D_L_law_44 3 rfl) (by decide) ?_
  refine v_iadd X (gD D_L_law_44 4 rfl) ?_
  obtain ⟨h486, hw⟩ := hw
  refine v_sld X hX h486 (gD D_L_law_44 5 rfl) ?_
  refine v_aload_n X 3 rfl (gD D_L_law_44 6 rfl) rfl ?_
  obtain ⟨k489, n490, k491, n492, h493, h494, hw⟩ := hw
  refine v_callW X (As := [va_rf (some a1), .int (xs (x4 + 1).toNatClampNeg), .int (xs (x4 + 2).toNatClampNeg), va_rf (some a3)]) (rest := []) (nA := 4) k489 n490 k491 n492 (fun ht => c_L_wave htr (ht.sub [0, 2] rfl) hw) (Or.inr rfl) lk_sRL_209 (by decide +kernel) rfl rfl (by decide) (by decide) (by decide) h493 h494 (gD D_L_law_44 7 rfl) (fun x487 s488 hq hx hf => ?_)
  replace hw := hq hx hf
  clear hq hx hf
  refine v_istore X [(5, .int x487), (0, va_rf (some b)), (1, va_rf (some a1)), (2, va_rf (some a2)), (3, va_rf (some a3)), (4, .int x4)] (gD D_L_law_44 8 rfl) (by decide) rfl ?_
  refine v_aload_n X 3 rfl (gD D_L_law_44 9 rfl) rfl ?_
  refine v_aload_n X 1 rfl (gD D_L_law_44 10 rfl) rfl ?_
  refine v_iload X 5 rfl (gD D_L_law_44 11 rfl) ?_
  refine v_iconst X 1 (gD D_L_law_44 12 rfl) (by decide) ?_
  refine v_iadd X (gD D_L_law_44 13 rfl) ?_
  obtain ⟨h495, hw⟩ := hw
  refine v_sld X hX h495 (gD D_L_law_44 14 rfl) ?_
  refine v_aload_n X 1 rfl (gD D_L_law_44 15 rfl) rfl ?_
  refine v_iload X 5 rfl (gD D_L_law_44 16 rfl) ?_
  refine v_iconst X 2 (gD D_L_law_44 17 rfl) (by decide) ?_
  refine v_iadd X (gD D_L_law_44 18 rfl) ?_
  obtain ⟨h496, hw⟩ := hw
  refine v_sld X hX h496 (gD D_L_law_44 19 rfl) ?_
  refine v_callVi X (As := [.int (xs (x4 + 1).toNatClampNeg), .int (xs (x4 + 2).toNatClampNeg)]) (rest := []) (nA := 2) 0 0 k491 n492 (fun ht => c_X12_wave htr (ht.sub [1] rfl) hw) (Or.inr rfl) 1 (κ := 13) rfl (by decide) (rfl : gCl[12]? = some (RX12, TX12, 65)) lk_vRL_211 (by decide +kernel) rfl rfl (by decide) (by decide) (by decide) rfl rfl (gD D_L_law_44 20 rfl) (fun x497 s498 hq hx hf => ?_)
  replace hw := hq hx hf
  clear hq hx hf
  refine v_istore X [(6, .int x497), (5, .int x487), (0, va_rf (some b)), (1, va_rf (some a1)), (2, va_rf (some a2)), (3, va_rf (some a3)), (4, .int x4)] (gD D_L_law_45 0 rfl) (by decide) rfl ?_
  refine v_aload_n X 4 rfl (gD D_L_law_45 1 rfl) rfl ?_
  refine v_callVi X (As := []) (rest := []) (nA := 0) 0 0 k491 n492 (fun ht => c_X12_thrown htr (ht.sub [1] rfl) hw) (Or.inr rfl) 1 (κ := 13) rfl (by decide) (rfl : gCl[12]? = some (RX12, TX12, 65)) lk_vRL_139 (by decide +kernel) rfl rfl (by decide) (by decide) (by decide) rfl rfl (gD D_L_law_45 2 rfl) (fun x499 s500 hq hx hf => ?_)
  replace hw := hq hx hf
  clear hq hx hf
  refine v_iload X 1 rfl (gD D_L_law_45 3 rfl) ?_
  refine v_icmp_eq X 1603 (gD D_L_law_45 4 rfl) (by decide) (fun c501 => ?_) (fun c501 => ?_)
  · replace hw := hw.1 c501
    refine v_iload X 1 rfl (gD D_L_law_45 7 rfl) ?_
    refine v_if_ne X 1620 (gD D_L_law_45 8 rfl) (by decide) (fun c502 => ?_) (fun c502 => ?_)
    · replace hw := hw.1 c502
      refine v_goto X 2730 (gD D_L_law_45 18 rfl) (by decide) ?_
      refine v_iinc X (x4 + 7) 6 rfl [(4, .int (x4 + 7)), (6, .int x497), (5, .int x487), (0, va_rf (some b)), (1, va_rf (some a1)), (2, va_rf (some a2)), (3, va_rf (some a3))] (gD D_L_law_80 3 rfl) rfl (by decide) rfl ?_
      refine v_goto X 23 (gD D_L_law_80 4 rfl) (by decide) ?_
      exact v_sub [0, 1, 2] [3, 4, 5, 6, 0] rfl rfl (hK23 a1 a2 a3 (x4 + 7) s500 k491 n492 hw)
    · replace hw := hw.2 c502
      refine v_aload_n X 5 rfl (gD D_L_law_45 9 rfl) rfl ?_
      refine v_iconst X 0 (gD D_L_law_45 10 rfl) (by decide) ?_
      obtain ⟨h503, hw⟩ := hw
      refine v_lald X 2 rfl h503 (gD D_L_law_45 11 rfl) ?_
      refine v_iload X 0 rfl (gD D_L_law_45 12 rfl) ?_
      refine v_i2l X (gD D_L_law_45 13 rfl) ?_
      refine v_lcmp X (gD D_L_law_45 14 rfl) ?_
      refine v_if_eq X 1620 (gD D_L_law_45 15 rfl) (by decide) (fun c504 => ?_) (fun c504 => ?_)
      · replace hw := hw.1 c504
        refine v_goto X 2730 (gD D_L_law_45 18 rfl) (by decide) ?_
        refine v_iinc X (x4 + 7) 6 rfl [(4, .int (x4 + 7)), (6, .int x497), (5, .int x487), (0, va_rf (some b)), (1, va_rf (some a1)), (2, va_rf (some a2)), (3, va_rf (some a3))] (gD D_L_law_80 3 rfl) rfl (by decide) rfl ?_
        refine v_goto X 23 (gD D_L_law_80 4 rfl) (by decide) ?_
        exact v_sub [0, 1, 2] [3, 4, 5, 6, 0] rfl rfl (hK23 a1 a2 a3 (x4 + 7) s500 k491 n492 hw)
      · replace hw := hw.2 c504
        refine v_iconst X 0 (gD D_L_law_45 16 rfl) (by decide) ?_
        exact hw.elim
  · replace hw := hw.2 c501
    refine v_iconst X 0 (gD D_L_law_45 5 rfl) (by decide) ?_
    exact hw.elim
set_option maxRecDepth 100000 in
set_option maxHeartbeats 4000000 in
theorem t_L_law_1623 {p : Program} {l : Launch} {e : Env} {s : State} {m : MethodId} {below : List Frame} {meth : Method} {c : Code} {G : GX} {σ0 : St} {b L : Nat} {xs : Nat → Int32} (X : VC p l room_1 s m #[Value.ref b] meth c G 11 601024 7293034 7 RL code) (hr : meth.sig.returnType = ret) (htr : l.stackTraces = false) (hX : va_X b L xs s s.heap ∧ b < s.heap.size ∧ ¬ GA G b) (hsz : ∀ q, GA G q → s.heap.size ≤ q) {K23 : Nat → Nat → Nat → Int32 → St → Nat → Nat → Prop} (hK23 : ∀ (a1 : Nat) (a2 : Nat) (a3 : Nat) (x4 : Int32) (σ : St) (k n : Nat), K23 a1 a2 a3 x4 σ k n → V p l e room_1 s m #[Value.ref b] below meth c (lw_Z below #[Value.ref b] s) G 0 σ0 601024 7293034 7 σ k n [(some a1, 12), (some a2, 13), (some a3, 23)] 23 [(0, va_rf (some b)), (1, va_rf (some a1)), (2, va_rf (some a2)), (3, va_rf (some a3)), (4, .int x4)] []) : ∀ (a1 : Nat) (a2 : Nat) (a3 : Nat) (x4 : Int32) (σ : St) (k n : Nat), w_L_law_1623 L xs K23 a1 a2 a3 x4 σ k n → V p l e room_1 s m #[Value.ref b] below meth c (lw_Z below #[Value.ref b] s) G 0 σ0 601024 7293034 7 σ k n [(some a1, 12), (some a2, 13), (some a3, 23)] 1623 [(0, va_rf (some b)), (1, va_rf (some a1)), (2, va_rf (some a2)), (3, va_rf (some a3)), (4, .int x4)] [] := by
  intro a1 a2 a3 x4 σ k n hw
  unfold w_L_law_1623 at hw
  refine v_aload_n X 1 rfl (gD D_L_law_45 19 rfl) rfl ?_
  refine v_aload_n X 0 rfl (gD D_L_law_45 20 rfl) rfl ?_
  refine v_iload X 4 rfl (gD D_L_law_46 0 rfl) ?_
  refine v_iconst X 1 (gD D_L_law_46 1 rfl) (by decide) ?_
  refine v_iadd X (gD D_L_law_46 2 rfl) ?_
  obtain ⟨h505, hw⟩ := hw
  refine v_sld X hX h505 (gD D_L_law_46 3 rfl) ?_
  refine v_aload_n X 0 rfl (gD D_L_law_46 4 rfl) rfl ?_
  refine v_iload X 4 rfl (gD D_L_law_46 5 rfl) ?_
  refine v_iconst X 2 (gD D_L_law_46 6 rfl) (by decide) ?_
  refine v_iadd X (gD D_L_law_46 7 rfl) ?_
  obtain ⟨h506, hw⟩ := hw
  refine v_sld X hX h506 (gD D_L_law_46 8 rfl) ?_
  refine v_aload_n X 3 rfl (gD D_L_law_46 9 rfl) rfl ?_
  obtain ⟨k509, n510, k511, n512, h513, h514, hw⟩ := hw
  refine v_callW X (As := [va_rf (some a1), .int (xs (x4 + 1).toNatClampNeg), .int (xs (x4 + 2).toNatClampNeg), va_rf (some a3)]) (rest := []) (nA := 4) k509 n510 k511 n512 (fun ht => c_L_give htr (ht.sub [0, 2] rfl) hw) (Or.inr rfl) lk_sRL_212 (by decide +kernel) rfl rfl (by decide) (by decide) (by decide) h513 h514 (gD D_L_law_46 10 rfl) (fun x507 s508 hq hx hf => ?_)
  replace hw := hq hx hf
  clear hq hx hf
  refine v_istore X [(5, .int x507), (0, va_rf (some b)), (1, va_rf (some a1)), (2, va_rf (some a2)), (3, va_rf (some a3)), (4, .int x4)] (gD D_L_law_46 11 rfl) (by decide) rfl ?_
  refine v_aload_n X 3 rfl (gD D_L_law_46 12 rfl) rfl ?_
  refine v_aload_n X 1 rfl (gD D_L_law_46 13 rfl) rfl ?_
  refine v_iload X 5 rfl (gD D_L_law_46 14 rfl) ?_
  refine v_iconst X 1 (gD D_L_law_46 15 rfl) (by decide) ?_
  refine v_iadd X (gD D_L_law_46 16 rfl) ?_
  obtain ⟨h515, hw⟩ := hw
  refine v_sld X hX h515 (gD D_L_law_46 17 rfl) ?_
  refine v_aload_n X 1 rfl (gD D_L_law_46 18 rfl) rfl ?_
  refine v_iload X 5 rfl (gD D_L_law_46 19 rfl) ?_
  refine v_iconst X 2 (gD D_L_law_46 20 rfl) (by decide) ?_
  refine v_iadd X (gD D_L_law_47 0 rfl) ?_
  obtain ⟨h516, hw⟩ := hw
  refine v_sld X hX h516 (gD D_L_law_47 1 rfl) ?_
  refine v_callVi X (As := [.int (xs (x4 + 1).toNatClampNeg), .int (xs (x4 + 2).toNatClampNeg)]) (rest := []) (nA := 2) 0 0 k511 n512 (fun ht => c_X12_give htr (ht.sub [1] rfl) hw) (Or.inr rfl) 1 (κ := 13) rfl (by decide) (rfl : gCl[12]? = some (RX12, TX12, 65)) lk_vRL_214 (by decide +kernel) rfl rfl (by decide) (by decide) (by decide) rfl rfl (gD D_L_law_47 2 rfl) (fun x517 s518 hq hx hf => ?_)
  replace hw := hq hx hf
  clear hq hx hf
  refine v_istore X [(6, .int x517), (5, .int x507), (0, va_rf (some b)), (1, va_rf (some a1)), (2, va_rf (some a2)), (3, va_rf (some a3)), (4, .int x4)] (gD D_L_law_47 3 rfl) (by decide) rfl ?_
  refine v_aload_n X 4 rfl (gD D_L_law_47 4 rfl) rfl ?_
  refine v_callVi X (As := []) (rest := []) (nA := 0) 0 0 k511 n512 (fun ht => c_X12_thrown htr (ht.sub [1] rfl) hw) (Or.inr rfl) 1 (κ := 13) rfl (by decide) (rfl : gCl[12]? = some (RX12, TX12, 65)) lk_vRL_139 (by decide +kernel) rfl rfl (by decide) (by decide) (by decide) rfl rfl (gD D_L_law_47 5 rfl) (fun x519 s520 hq hx hf => ?_)
  replace hw := hq hx hf
  clear hq hx hf
  refine v_iload X 1 rfl (gD D_L_law_47 6 rfl) ?_
  refine v_icmp_eq X 1671 (gD D_L_law_47 7 rfl) (by decide) (fun c521 => ?_) (fun c521 => ?_)
  · replace hw := hw.1 c521
    refine v_iload X 1 rfl (gD D_L_law_47 10 rfl) ?_
    refine v_if_ne X 1688 (gD D_L_law_47 11 rfl) (by decide) (fun c522 => ?_) (fun c522 => ?_)
    · replace hw := hw.1 c522
      refine v_goto X 2730 (gD D_L_law_48 0 rfl) (by decide) ?_
      refine v_iinc X (x4 + 7) 6 rfl [(4, .int (x4 + 7)), (6, .int x517), (5, .int x507), (0, va_rf (some b)), (1, va_rf (some a1)), (2, va_rf (some a2)), (3, va_rf (some a3))] (gD D_L_law_80 3 rfl) rfl (by decide) rfl ?_
      refine v_goto X 23 (gD D_L_law_80 4 rfl) (by decide) ?_
      exact v_sub [0, 1, 2] [3, 4, 5, 6, 0] rfl rfl (hK23 a1 a2 a3 (x4 + 7) s520 k511 n512 hw)
    · replace hw := hw.2 c522
      refine v_aload_n X 5 rfl (gD D_L_law_47 12 rfl) rfl ?_
      refine v_iconst X 0 (gD D_L_law_47 13 rfl) (by decide) ?_
      obtain ⟨h523, hw⟩ := hw
      refine v_lald X 2 rfl h523 (gD D_L_law_47 14 rfl) ?_
      refine v_iload X 0 rfl (gD D_L_law_47 15 rfl) ?_
      refine v_i2l X (gD D_L_law_47 16 rfl) ?_
      refine v_lcmp X (gD D_L_law_47 17 rfl) ?_
      refine v_if_eq X 1688 (gD D_L_law_47 18 rfl) (by decide) (fun c524 => ?_) (fun c524 => ?_)
      · replace hw := hw.1 c524
        refine v_goto X 2730 (gD D_L_law_48 0 rfl) (by decide) ?_
        refine v_iinc X (x4 + 7) 6 rfl [(4, .int (x4 + 7)), (6, .int x517), (5, .int x507), (0, va_rf (some b)), (1, va_rf (some a1)), (2, va_rf (some a2)), (3, va_rf (some a3))] (gD D_L_law_80 3 rfl) rfl (by decide) rfl ?_
        refine v_goto X 23 (gD D_L_law_80 4 rfl) (by decide) ?_
        exact v_sub [0, 1, 2] [3, 4, 5, 6, 0] rfl rfl (hK23 a1 a2 a3 (x4 + 7) s520 k511 n512 hw)
      · replace hw := hw.2 c524
        refine v_iconst X 0 (gD D_L_law_47 19 rfl) (by decide) ?_
        exact hw.elim
  · replace hw := hw.2 c521
    refine v_iconst X 0 (gD D_L_law_47 8 rfl) (by decide) ?_
    exact hw.elim
set_option maxRecDepth 100000 in
set_option maxHeartbeats 4000000 in
theorem t_L_law_1691 {p : Program} {l : Launch} {e : Env} {s : State} {m : MethodId} {below : List Frame} {meth : Method} {c : Code} {G : GX} {σ0 : St} {b L : Nat} {xs : Nat → Int32} (X : VC p l room_1 s m #[Value.ref b] meth c G 11 601024 7293034 7 RL code) (hr : meth.sig.returnType = ret) (htr : l.stackTraces = false) (hX : va_X b L xs s s.heap ∧ b < s.heap.size ∧ ¬ GA G b) (hsz : ∀ q, GA G q → s.heap.size ≤ q) {K23 : Nat → Nat → Nat → Int32 → St → Nat → Nat → Prop} (hK23 : ∀ (a1 : Nat) (a2 : Nat) (a3 : Nat) (x4 : Int32) (σ : St) (k n : Nat), K23 a1 a2 a3 x4 σ k n → V p l e room_1 s m #[Value.ref b] below meth c (lw_Z below #[Value.ref b] s) G 0 σ0 601024 7293034 7 σ k n [(some a1, 12), (some a2, 13), (some a3, 23)] 23 [(0, va_rf (some b)), (1, va_rf (some a1)), (2, va_rf (some a2)), (3, va_rf (some a3)), (4, .int x4)] []) : ∀ (a1 : Nat) (a2 : Nat) (a3 : Nat) (x4 : Int32) (σ : St) (k n : Nat), w_L_law_1691 L xs K23 a1 a2 a3 x4 σ k n → V p l e room_1 s m #[Value.ref b] below meth c (lw_Z below #[Value.ref b] s) G 0 σ0 601024 7293034 7 σ k n [(some a1, 12), (some a2, 13), (some a3, 23)] 1691 [(0, va_rf (some b)), (1, va_rf (some a1)), (2, va_rf (some a2)), (3, va_rf (some a3)), (4, .int x4)] [] := by
  intro a1 a2 a3 x4 σ k n hw
  unfold w_L_law_1691 at hw
  refine v_aload_n X 1 rfl (gD D_L_law_48 1 rfl) rfl ?_
  refine v_aload_n X 0 rfl (gD D_L_law_48 2 rfl) rfl ?_
  refine v_iload X 4 rfl (gD D_L_law_48 3 rfl) ?_
  refine v_iconst X 1 (gD D_L_law_48 4 rfl) (by decide) ?_
  refine v_iadd X (gD D_L_law_48 5 rfl) ?_
  obtain ⟨h525, hw⟩ := hw
  refine v_sld X hX h525 (gD D_L_law_48 6 rfl) ?_
  refine v_aload_n X 3 rfl (gD D_L_law_48 7 rfl) rfl ?_
  obtain ⟨k528, n529, k530, n531, h532, h533, hw⟩ := hw
  refine v_callW X (As := [va_rf (some a1), .int (xs (x4 + 1).toNatClampNeg), va_rf (some a3)]) (rest := []) (nA := 3) k528 n529 k530 n531 (fun ht => c_L_pass htr (ht.sub [0, 2] rfl) hw) (Or.inr rfl) lk_sRL_215 (by decide +kernel) rfl rfl (by decide) (by decide) (by decide) h532 h533 (gD D_L_law_48 8 rfl) (fun x526 s527 hq hx hf => ?_)
  replace hw := hq hx hf
  clear hq hx hf
  refine v_istore X [(5, .int x526), (0, va_rf (some b)), (1, va_rf (some a1)), (2, va_rf (some a2)), (3, va_rf (some a3)), (4, .int x4)] (gD D_L_law_48 9 rfl) (by decide) rfl ?_
  refine v_aload_n X 3 rfl (gD D_L_law_48 10 rfl) rfl ?_
  refine v_aload_n X 1 rfl (gD D_L_law_48 11 rfl) rfl ?_
  refine v_iload X 5 rfl (gD D_L_law_48 12 rfl) ?_
  refine v_iconst X 1 (gD D_L_law_48 13 rfl) (by decide) ?_
  refine v_iadd X (gD D_L_law_48 14 rfl) ?_
  obtain ⟨h534, hw⟩ := hw
  refine v_sld X hX h534 (gD D_L_law_48 15 rfl) ?_
  refine v_callVi X (As := [.int (xs (x4 + 1).toNatClampNeg)]) (rest := []) (nA := 1) 0 0 k530 n531 (fun ht => c_X12_pass htr (ht.sub [1] rfl) hw) (Or.inr rfl) 1 (κ := 13) rfl (by decide) (rfl : gCl[12]? = some (RX12, TX12, 65)) lk_vRL_217 (by decide +kernel) rfl rfl (by decide) (by decide) (by decide) rfl rfl (gD D_L_law_48 16 rfl) (fun x535 s536 hq hx hf => ?_)
  replace hw := hq hx hf
  clear hq hx hf
  refine v_istore X [(6, .int x535), (5, .int x526), (0, va_rf (some b)), (1, va_rf (some a1)), (2, va_rf (some a2)), (3, va_rf (some a3)), (4, .int x4)] (gD D_L_law_48 17 rfl) (by decide) rfl ?_
  refine v_aload_n X 4 rfl (gD D_L_law_48 18 rfl) rfl ?_
  refine v_callVi X (As := []) (rest := []) (nA := 0) 0 0 k530 n531 (fun ht => c_X12_thrown htr (ht.sub [1] rfl) hw) (Or.inr rfl) 1 (κ := 13) rfl (by decide) (rfl : gCl[12]? = some (RX12, TX12, 65)) lk_vRL_139 (by decide +kernel) rfl rfl (by decide) (by decide) (by decide) rfl rfl (gD D_L_law_48 19 rfl) (fun x537 s538 hq hx hf => ?_)
  replace hw := hq hx hf
  clear hq hx hf
  refine v_iload X 1 rfl (gD D_L_law_48 20 rfl) ?_
  refine v_icmp_eq X 1727 (gD D_L_law_49 0 rfl) (by decide) (fun c539 => ?_) (fun c539 => ?_)
  · replace hw := hw.1 c539
    refine v_iload X 1 rfl (gD D_L_law_49 3 rfl) ?_
    refine v_if_ne X 1744 (gD D_L_law_49 4 rfl) (by decide) (fun c540 => ?_) (fun c540 => ?_)
    · replace hw := hw.1 c540
      refine v_goto X 2730 (gD D_L_law_49 14 rfl) (by decide) ?_
      refine v_iinc X (x4 + 7) 6 rfl [(4, .int (x4 + 7)), (6, .int x535), (5, .int x526), (0, va_rf (some b)), (1, va_rf (some a1)), (2, va_rf (some a2)), (3, va_rf (some a3))] (gD D_L_law_80 3 rfl) rfl (by decide) rfl ?_
      refine v_goto X 23 (gD D_L_law_80 4 rfl) (by decide) ?_
      exact v_sub [0, 1, 2] [3, 4, 5, 6, 0] rfl rfl (hK23 a1 a2 a3 (x4 + 7) s538 k530 n531 hw)
    · replace hw := hw.2 c540
      refine v_aload_n X 5 rfl (gD D_L_law_49 5 rfl) rfl ?_
      refine v_iconst X 0 (gD D_L_law_49 6 rfl) (by decide) ?_
      obtain ⟨h541, hw⟩ := hw
      refine v_lald X 2 rfl h541 (gD D_L_law_49 7 rfl) ?_
      refine v_iload X 0 rfl (gD D_L_law_49 8 rfl) ?_
      refine v_i2l X (gD D_L_law_49 9 rfl) ?_
      refine v_lcmp X (gD D_L_law_49 10 rfl) ?_
      refine v_if_eq X 1744 (gD D_L_law_49 11 rfl) (by decide) (fun c542 => ?_) (fun c542 => ?_)
      · replace hw := hw.1 c542
        refine v_goto X 2730 (gD D_L_law_49 14 rfl) (by decide) ?_
        refine v_iinc X (x4 + 7) 6 rfl [(4, .int (x4 + 7)), (6, .int x535), (5, .int x526), (0, va_rf (some b)), (1, va_rf (some a1)), (2, va_rf (some a2)), (3, va_rf (some a3))] (gD D_L_law_80 3 rfl) rfl (by decide) rfl ?_
        refine v_goto X 23 (gD D_L_law_80 4 rfl) (by decide) ?_
        exact v_sub [0, 1, 2] [3, 4, 5, 6, 0] rfl rfl (hK23 a1 a2 a3 (x4 + 7) s538 k530 n531 hw)
      · replace hw := hw.2 c542
        refine v_iconst X 0 (gD D_L_law_49 12 rfl) (by decide) ?_
        exact hw.elim
  · replace hw := hw.2 c539
    refine v_iconst X 0 (gD D_L_law_49 1 rfl) (by decide) ?_
    exact hw.elim
set_option maxRecDepth 100000 in
set_option maxHeartbeats 4000000 in
theorem t_L_law_1747 {p : Program} {l : Launch} {e : Env} {s : State} {m : MethodId} {below : List Frame} {meth : Method} {c : Code} {G : GX} {σ0 : St} {b L : Nat} {xs : Nat → Int32} (X : VC p l room_1 s m #[Value.ref b] meth c G 11 601024 7293034 7 RL code) (hr : meth.sig.returnType = ret) (htr : l.stackTraces = false) (hX : va_X b L xs s s.heap ∧ b < s.heap.size ∧ ¬ GA G b) (hsz : ∀ q, GA G q → s.heap.size ≤ q) {K23 : Nat → Nat → Nat → Int32 → St → Nat → Nat → Prop} (hK23 : ∀ (a1 : Nat) (a2 : Nat) (a3 : Nat) (x4 : Int32) (σ : St) (k n : Nat), K23 a1 a2 a3 x4 σ k n → V p l e room_1 s m #[Value.ref b] below meth c (lw_Z below #[Value.ref b] s) G 0 σ0 601024 7293034 7 σ k n [(some a1, 12), (some a2, 13), (some a3, 23)] 23 [(0, va_rf (some b)), (1, va_rf (some a1)), (2, va_rf (some a2)), (3, va_rf (some a3)), (4, .int x4)] []) : ∀ (a1 : Nat) (a2 : Nat) (a3 : Nat) (x4 : Int32) (σ : St) (k n : Nat), w_L_law_1747 L xs K23 a1 a2 a3 x4 σ k n → V p l e room_1 s m #[Value.ref b] below meth c (lw_Z below #[Value.ref b] s) G 0 σ0 601024 7293034 7 σ k n [(some a1, 12), (some a2, 13), (some a3, 23)] 1747 [(0, va_rf (some b)), (1, va_rf (some a1)), (2, va_rf (some a2)), (3, va_rf (some a3)), (4, .int x4)] [] := by
  intro a1 a2 a3 x4 σ k n hw
  unfold w_L_law_1747 at hw
  refine v_aload_n X 1 rfl (gD D_L_law_49 15 rfl) rfl ?_
  refine v_aload_n X 0 rfl (gD D_L_law_49 16 rfl) rfl ?_
  refine v_iload X 4 rfl (gD D_L_law_49 17 rfl) ?_
  refine v_iconst X 1 (gD D_L_law_49 18 rfl) (by decide) ?_
  refine v_iadd X (gD D_L_law_49 19 rfl) ?_
  obtain ⟨h543, hw⟩ := hw
  refine v_sld X hX h543 (gD D_L_law_49 20 rfl) ?_
  refine v_aload_n X 3 rfl (gD D_L_law_50 0 rfl) rfl ?_
  obtain ⟨k546, n547, k548, n549, h550, h551, hw⟩ := hw
  refine v_callW X (As := [va_rf (some a1), .int (xs (x4 + 1).toNatClampNeg), va_rf (some a3)]) (rest := []) (nA := 3) k546 n547 k548 n549 (fun ht => c_L_where htr (ht.sub [0, 2] rfl) hw) (Or.inr rfl) lk_sRL_218 (by decide +kernel) rfl rfl (by decide) (by decide) (by decide) h550 h551 (gD D_L_law_50 1 rfl) (fun x544 s545 hq hx hf => ?_)
  replace hw := hq hx hf
  clear hq hx hf
  refine v_istore X [(5, .int x544), (0, va_rf (some b)), (1, va_rf (some a1)), (2, va_rf (some a2)), (3, va_rf (some a3)), (4, .int x4)] (gD D_L_law_50 2 rfl) (by decide) rfl ?_
  refine v_aload_n X 3 rfl (gD D_L_law_50 3 rfl) rfl ?_
  refine v_aload_n X 1 rfl (gD D_L_law_50 4 rfl) rfl ?_
  refine v_iload X 5 rfl (gD D_L_law_50 5 rfl) ?_
  refine v_iconst X 1 (gD D_L_law_50 6 rfl) (by decide) ?_
  refine v_iadd X (gD D_L_law_50 7 rfl) ?_
  obtain ⟨h552, hw⟩ := hw
  refine v_sld X hX h552 (gD D_L_law_50 8 rfl) ?_
  refine v_callVi X (As := [.int (xs (x4 + 1).toNatClampNeg)]) (rest := []) (nA := 1) 0 0 k548 n549 (fun ht => c_X12_where htr (ht.sub [1] rfl) hw) (Or.inr rfl) 1 (κ := 13) rfl (by decide) (rfl : gCl[12]? = some (RX12, TX12, 65)) lk_vRL_220 (by decide +kernel) rfl rfl (by decide) (by decide) (by decide) rfl rfl (gD D_L_law_50 9 rfl) (fun x553 s554 hq hx hf => ?_)
  replace hw := hq hx hf
  clear hq hx hf
  refine v_istore X [(6, .int x553), (5, .int x544), (0, va_rf (some b)), (1, va_rf (some a1)), (2, va_rf (some a2)), (3, va_rf (some a3)), (4, .int x4)] (gD D_L_law_50 10 rfl) (by decide) rfl ?_
  refine v_aload_n X 4 rfl (gD D_L_law_50 11 rfl) rfl ?_
  refine v_callVi X (As := []) (rest := []) (nA := 0) 0 0 k548 n549 (fun ht => c_X12_thrown htr (ht.sub [1] rfl) hw) (Or.inr rfl) 1 (κ := 13) rfl (by decide) (rfl : gCl[12]? = some (RX12, TX12, 65)) lk_vRL_139 (by decide +kernel) rfl rfl (by decide) (by decide) (by decide) rfl rfl (gD D_L_law_50 12 rfl) (fun x555 s556 hq hx hf => ?_)
  replace hw := hq hx hf
  clear hq hx hf
  refine v_iload X 1 rfl (gD D_L_law_50 13 rfl) ?_
  refine v_icmp_eq X 1783 (gD D_L_law_50 14 rfl) (by decide) (fun c557 => ?_) (fun c557 => ?_)
  · replace hw := hw.1 c557
    refine v_iload X 1 rfl (gD D_L_law_50 17 rfl) ?_
    refine v_if_ne X 1800 (gD D_L_law_50 18 rfl) (by decide) (fun c558 => ?_) (fun c558 => ?_)
    · replace hw := hw.1 c558
      refine v_goto X 2730 (gD D_L_law_51 7 rfl) (by decide) ?_
      refine v_iinc X (x4 + 7) 6 rfl [(4, .int (x4 + 7)), (6, .int x553), (5, .int x544), (0, va_rf (some b)), (1, va_rf (some a1)), (2, va_rf (some a2)), (3, va_rf (some a3))] (gD D_L_law_80 3 rfl) rfl (by decide) rfl ?_
      refine v_goto X 23 (gD D_L_law_80 4 rfl) (by decide) ?_
      exact v_sub [0, 1, 2] [3, 4, 5, 6, 0] rfl rfl (hK23 a1 a2 a3 (x4 + 7) s556 k548 n549 hw)
    · replace hw := hw.2 c558
      refine v_aload_n X 5 rfl (gD D_L_law_50 19 rfl) rfl ?_
      refine v_iconst X 0 (gD D_L_law_50 20 rfl) (by decide) ?_
      obtain ⟨h559, hw⟩ := hw
      refine v_lald X 2 rfl h559 (gD D_L_law_51 0 rfl) ?_
      refine v_iload X 0 rfl (gD D_L_law_51 1 rfl) ?_
      refine v_i2l X (gD D_L_law_51 2 rfl) ?_
      refine v_lcmp X (gD D_L_law_51 3 rfl) ?_
      refine v_if_eq X 1800 (gD D_L_law_51 4 rfl) (by decide) (fun c560 => ?_) (fun c560 => ?_)
      · replace hw := hw.1 c560
        refine v_goto X 2730 (gD D_L_law_51 7 rfl) (by decide) ?_
        refine v_iinc X (x4 + 7) 6 rfl [(4, .int (x4 + 7)), (6, .int x553), (5, .int x544), (0, va_rf (some b)), (1, va_rf (some a1)), (2, va_rf (some a2)), (3, va_rf (some a3))] (gD D_L_law_80 3 rfl) rfl (by decide) rfl ?_
        refine v_goto X 23 (gD D_L_law_80 4 rfl) (by decide) ?_
        exact v_sub [0, 1, 2] [3, 4, 5, 6, 0] rfl rfl (hK23 a1 a2 a3 (x4 + 7) s556 k548 n549 hw)
      · replace hw := hw.2 c560
        refine v_iconst X 0 (gD D_L_law_51 5 rfl) (by decide) ?_
        exact hw.elim
  · replace hw := hw.2 c557
    refine v_iconst X 0 (gD D_L_law_50 15 rfl) (by decide) ?_
    exact hw.elim
set_option maxRecDepth 100000 in
set_option maxHeartbeats 4000000 in
theorem t_L_law_1803 {p : Program} {l : Launch} {e : Env} {s : State} {m : MethodId} {below : List Frame} {meth : Method} {c : Code} {G : GX} {σ0 : St} {b L : Nat} {xs : Nat → Int32} (X : VC p l room_1 s m #[Value.ref b] meth c G 11 601024 7293034 7 RL code) (hr : meth.sig.returnType = ret) (htr : l.stackTraces = false) (hX : va_X b L xs s s.heap ∧ b < s.heap.size ∧ ¬ GA G b) (hsz : ∀ q, GA G q → s.heap.size ≤ q) {K23 : Nat → Nat → Nat → Int32 → St → Nat → Nat → Prop} (hK23 : ∀ (a1 : Nat) (a2 : Nat) (a3 : Nat) (x4 : Int32) (σ : St) (k n : Nat), K23 a1 a2 a3 x4 σ k n → V p l e room_1 s m #[Value.ref b] below meth c (lw_Z below #[Value.ref b] s) G 0 σ0 601024 7293034 7 σ k n [(some a1, 12), (some a2, 13), (some a3, 23)] 23 [(0, va_rf (some b)), (1, va_rf (some a1)), (2, va_rf (some a2)), (3, va_rf (some a3)), (4, .int x4)] []) : ∀ (a1 : Nat) (a2 : Nat) (a3 : Nat) (x4 : Int32) (σ : St) (k n : Nat), w_L_law_1803 L xs K23 a1 a2 a3 x4 σ k n → V p l e room_1 s m #[Value.ref b] below meth c (lw_Z below #[Value.ref b] s) G 0 σ0 601024 7293034 7 σ k n [(some a1, 12), (some a2, 13), (some a3, 23)] 1803 [(0, va_rf (some b)), (1, va_rf (some a1)), (2, va_rf (some a2)), (3, va_rf (some a3)), (4, .int x4)] [] := by
  intro a1 a2 a3 x4 σ k n hw
  unfold w_L_law_1803 at hw
  refine v_aload_n X 1 rfl (gD D_L_law_51 8 rfl) rfl ?_
  refine v_aload_n X 0 rfl (gD D_L_law_51 9 rfl) rfl ?_
  refine v_iload X 4 rfl (gD D_L_law_51 10 rfl) ?_
  refine v_iconst X 1 (gD D_L_law_51 11 rfl) (by decide) ?_
  refine v_iadd X (gD D_L_law_51 12 rfl) ?_
  obtain ⟨h561, hw⟩ := hw
  refine v_sld X hX h561 (gD D_L_law_51 13 rfl) ?_
  refine v_aload_n X 3 rfl (gD D_L_law_51 14 rfl) rfl ?_
  obtain ⟨k564, n565, k566, n567, h568, h569, hw⟩ := hw
  refine v_callW X (As := [va_rf (some a1), .int (xs (x4 + 1).toNatClampNeg), va_rf (some a3)]) (rest := []) (nA := 3) k564 n565 k566 n567 (fun ht => c_L_doing htr (ht.sub [0, 2] rfl) hw) (Or.inr rfl) lk_sRL_221 (by decide +kernel) rfl rfl (by decide) (by decide) (by decide) h568 h569 (gD D_L_law_51 15 rfl) (fun x562 s563 hq hx hf => ?_)
  replace hw := hq hx hf
  clear hq hx hf
  refine v_istore X [(5, .int x562), (0, va_rf (some b)), (1, va_rf (some a1)), (2, va_rf (some a2)), (3, va_rf (some a3)), (4, .int x4)] (gD D_L_law_51 16 rfl) (by decide) rfl ?_
  refine v_aload_n X 3 rfl (gD D_L_law_51 17 rfl) rfl ?_
  refine v_aload_n X 1 rfl (gD D_L_law_51 18 rfl) rfl ?_
  refine v_iload X 5 rfl (gD D_L_law_51 19 rfl) ?_
  refine v_iconst X 1 (gD D_L_law_51 20 rfl) (by decide) ?_
  refine v_iadd X (gD D_L_law_52 0 rfl) ?_
  obtain ⟨h570, hw⟩ := hw
  refine v_sld X hX h570 (gD D_L_law_52 1 rfl) ?_
  refine v_callVi X (As := [.int (xs (x4 + 1).toNatClampNeg)]) (rest := []) (nA := 1) 0 0 k566 n567 (fun ht => c_X12_doing htr (ht.sub [1] rfl) hw) (Or.inr rfl) 1 (κ := 13) rfl (by decide) (rfl : gCl[12]? = some (RX12, TX12, 65)) lk_vRL_223 (by decide +kernel) rfl rfl (by decide) (by decide) (by decide) rfl rfl (gD D_L_law_52 2 rfl) (fun x571 s572 hq hx hf => ?_)
  replace hw := hq hx hf
  clear hq hx hf
  refine v_istore X [(6, .int x571), (5, .int x562), (0, va_rf (some b)), (1, va_rf (some a1)), (2, va_rf (some a2)), (3, va_rf (some a3)), (4, .int x4)] (gD D_L_law_52 3 rfl) (by decide) rfl ?_
  refine v_aload_n X 4 rfl (gD D_L_law_52 4 rfl) rfl ?_
  refine v_callVi X (As := []) (rest := []) (nA := 0) 0 0 k566 n567 (fun ht => c_X12_thrown htr (ht.sub [1] rfl) hw) (Or.inr rfl) 1 (κ := 13) rfl (by decide) (rfl : gCl[12]? = some (RX12, TX12, 65)) lk_vRL_139 (by decide +kernel) rfl rfl (by decide) (by decide) (by decide) rfl rfl (gD D_L_law_52 5 rfl) (fun x573 s574 hq hx hf => ?_)
  replace hw := hq hx hf
  clear hq hx hf
  refine v_iload X 1 rfl (gD D_L_law_52 6 rfl) ?_
  refine v_icmp_eq X 1839 (gD D_L_law_52 7 rfl) (by decide) (fun c575 => ?_) (fun c575 => ?_)
  · replace hw := hw.1 c575
    refine v_iload X 1 rfl (gD D_L_law_52 10 rfl) ?_
    refine v_if_ne X 1856 (gD D_L_law_52 11 rfl) (by decide) (fun c576 => ?_) (fun c576 => ?_)
    · replace hw := hw.1 c576
      refine v_goto X 2730 (gD D_L_law_53 0 rfl) (by decide) ?_
      refine v_iinc X (x4 + 7) 6 rfl [(4, .int (x4 + 7)), (6, .int x571), (5, .int x562), (0, va_rf (some b)), (1, va_rf (some a1)), (2, va_rf (some a2)), (3, va_rf (some a3))] (gD D_L_law_80 3 rfl) rfl (by decide) rfl ?_
      refine v_goto X 23 (gD D_L_law_80 4 rfl) (by decide) ?_
      exact v_sub [0, 1, 2] [3, 4, 5, 6, 0] rfl rfl (hK23 a1 a2 a3 (x4 + 7) s574 k566 n567 hw)
    · replace hw := hw.2 c576
      refine v_aload_n X 5 rfl (gD D_L_law_52 12 rfl) rfl ?_
      refine v_iconst X 0 (gD D_L_law_52 13 rfl) (by decide) ?_
      obtain ⟨h577, hw⟩ := hw
      refine v_lald X 2 rfl h577 (gD D_L_law_52 14 rfl) ?_
      refine v_iload X 0 rfl (gD D_L_law_52 15 rfl) ?_
      refine v_i2l X (gD D_L_law_52 16 rfl) ?_
      refine v_lcmp X (gD D_L_law_52 17 rfl) ?_
      refine v_if_eq X 1856 (gD D_L_law_52 18 rfl) (by decide) (fun c578 => ?_) (fun c578 => ?_)
      · replace hw := hw.1 c578
        refine v_goto X 2730 (gD D_L_law_53 0 rfl) (by decide) ?_
        refine v_iinc X (x4 + 7) 6 rfl [(4, .int (x4 + 7)), (6, .int x571), (5, .int x562), (0, va_rf (some b)), (1, va_rf (some a1)), (2, va_rf (some a2)), (3, va_rf (some a3))] (gD D_L_law_80 3 rfl) rfl (by decide) rfl ?_
        refine v_goto X 23 (gD D_L_law_80 4 rfl) (by decide) ?_
        exact v_sub [0, 1, 2] [3, 4, 5, 6, 0] rfl rfl (hK23 a1 a2 a3 (x4 + 7) s574 k566 n567 hw)
      · replace hw := hw.2 c578
        refine v_iconst X 0 (gD D_L_law_52 19 rfl) (by decide) ?_
        exact hw.elim
  · replace hw := hw.2 c575
    refine v_iconst X 0 (gD D_L_law_52 8 rfl) (by decide) ?_
    exact hw.elim
set_option maxRecDepth 100000 in
set_option maxHeartbeats 4000000 in
theorem t_L_law_1859 {p : Program} {l : Launch} {e : Env} {s : State} {m : MethodId} {below : List Frame} {meth : Method} {c : Code} {G : GX} {σ0 : St} {b L : Nat} {xs : Nat → Int32} (X : VC p l room_1 s m #[Value.ref b] meth c G 11 601024 7293034 7 RL code) (hr : meth.sig.returnType = ret) (htr : l.stackTraces = false) (hX : va_X b L xs s s.heap ∧ b < s.heap.size ∧ ¬ GA G b) (hsz : ∀ q, GA G q → s.heap.size ≤ q) {K23 : Nat → Nat → Nat → Int32 → St → Nat → Nat → Prop} (hK23 : ∀ (a1 : Nat) (a2 : Nat) (a3 : Nat) (x4 : Int32) (σ : St) (k n : Nat), K23 a1 a2 a3 x4 σ k n → V p l e room_1 s m #[Value.ref b] below meth c (lw_Z below #[Value.ref b] s) G 0 σ0 601024 7293034 7 σ k n [(some a1, 12), (some a2, 13), (some a3, 23)] 23 [(0, va_rf (some b)), (1, va_rf (some a1)), (2, va_rf (some a2)), (3, va_rf (some a3)), (4, .int x4)] []) : ∀ (a1 : Nat) (a2 : Nat) (a3 : Nat) (x4 : Int32) (σ : St) (k n : Nat), w_L_law_1859 L xs K23 a1 a2 a3 x4 σ k n → V p l e room_1 s m #[Value.ref b] below meth c (lw_Z below #[Value.ref b] s) G 0 σ0 601024 7293034 7 σ k n [(some a1, 12), (some a2, 13), (some a3, 23)] 1859 [(0, va_rf (some b)), (1, va_rf (some a1)), (2, va_rf (some a2)), (3, va_rf (some a3)), (4, .int x4)] [] := by
  intro a1 a2 a3 x4 σ k n hw
  unfold w_L_law_1859 at hw
  refine v_aload_n X 1 rfl (gD D_L_law_53 1 rfl) rfl ?_
  refine v_callVi X (As := []) (rest := []) (nA := 0) 0 0 k n (fun ht => c_X11_tasks htr (ht.sub [0] rfl) hw) (Or.inr rfl) 0 (κ := 12) rfl (by decide) (rfl : gCl[11]? = some (RX11, TX11, 19)) lk_vRL_224 (by decide +kernel) rfl rfl (by decide) (by decide) (by decide) rfl rfl (gD D_L_law_53 2 rfl) (fun x579 s580 hq hx hf => ?_)
  replace hw := hq hx hf
  clear hq hx hf
  refine v_aload_n X 2 rfl (gD D_L_law_53 3 rfl) rfl ?_
  refine v_callVi X (As := []) (rest := [.int x579]) (nA := 0) 0 0 k n (fun ht => c_X12_tasks htr (ht.sub [1] rfl) hw) (Or.inr rfl) 1 (κ := 13) rfl (by decide) (rfl : gCl[12]? = some (RX12, TX12, 65)) lk_vRL_227 (by decide +kernel) rfl rfl (by simp [rf_cat, ct_i]) (by decide) (by decide) rfl rfl (gD D_L_law_53 4 rfl) (fun x581 s582 hq hx hf => ?_)
  replace hw := hq hx hf
  clear hq hx hf
  refine v_icmp_eq X 2730 (gD D_L_law_53 5 rfl) (by decide) (fun c583 => ?_) (fun c583 => ?_)
  · replace hw := hw.1 c583
    refine v_iinc X (x4 + 7) 4 rfl [(4, .int (x4 + 7)), (0, va_rf (some b)), (1, va_rf (some a1)), (2, va_rf (some a2)), (3, va_rf (some a3))] (gD D_L_law_80 3 rfl) rfl (by decide) rfl ?_
    refine v_goto X 23 (gD D_L_law_80 4 rfl) (by decide) ?_
    exact v_sub [0, 1, 2] [1, 2, 3, 4, 0] rfl rfl (hK23 a1 a2 a3 (x4 + 7) s582 k n hw)
  · replace hw := hw.2 c583
    refine v_iconst X 0 (gD D_L_law_53 6 rfl) (by decide) ?_
    exact hw.elim
set_option maxRecDepth 100000 in
set_option maxHeartbeats 4000000 in
theorem t_L_law_1872 {p : Program} {l : Launch} {e : Env} {s : State} {m : MethodId} {below : List Frame} {meth : Method} {c : Code} {G : GX} {σ0 : St} {b L : Nat} {xs : Nat → Int32} (X : VC p l room_1 s m #[Value.ref b] meth c G 11 601024 7293034 7 RL code) (hr : meth.sig.returnType = ret) (htr : l.stackTraces = false) (hX : va_X b L xs s s.heap ∧ b < s.heap.size ∧ ¬ GA G b) (hsz : ∀ q, GA G q → s.heap.size ≤ q) {K23 : Nat → Nat → Nat → Int32 → St → Nat → Nat → Prop} (hK23 : ∀ (a1 : Nat) (a2 : Nat) (a3 : Nat) (x4 : Int32) (σ : St) (k n : Nat), K23 a1 a2 a3 x4 σ k n → V p l e room_1 s m #[Value.ref b] below meth c (lw_Z below #[Value.ref b] s) G 0 σ0 601024 7293034 7 σ k n [(some a1, 12), (some a2, 13), (some a3, 23)] 23 [(0, va_rf (some b)), (1, va_rf (some a1)), (2, va_rf (some a2)), (3, va_rf (some a3)), (4, .int x4)] []) : ∀ (a1 : Nat) (a2 : Nat) (a3 : Nat) (x4 : Int32) (σ : St) (k n : Nat), w_L_law_1872 L xs K23 a1 a2 a3 x4 σ k n → V p l e room_1 s m #[Value.ref b] below meth c (lw_Z below #[Value.ref b] s) G 0 σ0 601024 7293034 7 σ k n [(some a1, 12), (some a2, 13), (some a3, 23)] 1872 [(0, va_rf (some b)), (1, va_rf (some a1)), (2, va_rf (some a2)), (3, va_rf (some a3)), (4, .int x4)] [] := by
  intro a1 a2 a3 x4 σ k n hw
  unfold w_L_law_1872 at hw
  refine v_aload_n X 1 rfl (gD D_L_law_53 8 rfl) rfl ?_
  refine v_aload_n X 0 rfl (gD D_L_law_53 9 rfl) rfl ?_
  refine v_iload X 4 rfl (gD D_L_law_53 10 rfl) ?_
  refine v_iconst X 1 (gD D_L_law_53 11 rfl) (by decide) ?_
  refine v_iadd X (gD D_L_law_53 12 rfl) ?_
  obtain ⟨h584, hw⟩ := hw
  refine v_sld X hX h584 (gD D_L_law_53 13 rfl) ?_
  refine v_aload_n X 3 rfl (gD D_L_law_53 14 rfl) rfl ?_
  obtain ⟨k587, n588, k589, n590, h591, h592, hw⟩ := hw
  refine v_callW X (As := [va_rf (some a1), .int (xs (x4 + 1).toNatClampNeg), va_rf (some a3)]) (rest := []) (nA := 3) k587 n588 k589 n590 (fun ht => c_L_taskAt htr (ht.sub [0, 2] rfl) hw) (Or.inr rfl) lk_sRL_228 (by decide +kernel) rfl rfl (by decide) (by decide) (by decide) h591 h592 (gD D_L_law_53 15 rfl) (fun x585 s586 hq hx hf => ?_)
  replace hw := hq hx hf
  clear hq hx hf
  refine v_istore X [(5, .int x585), (0, va_rf (some b)), (1, va_rf (some a1)), (2, va_rf (some a2)), (3, va_rf (some a3)), (4, .int x4)] (gD D_L_law_53 16 rfl) (by decide) rfl ?_
  refine v_aload_n X 3 rfl (gD D_L_law_53 17 rfl) rfl ?_
  refine v_aload_n X 1 rfl (gD D_L_law_53 18 rfl) rfl ?_
  refine v_iload X 5 rfl (gD D_L_law_53 19 rfl) ?_
  refine v_iconst X 1 (gD D_L_law_53 20 rfl) (by decide) ?_
  refine v_iadd X (gD D_L_law_54 0 rfl) ?_
  obtain ⟨h593, hw⟩ := hw
  refine v_sld X hX h593 (gD D_L_law_54 1 rfl) ?_
  refine v_callVi X (As := [.int (xs (x4 + 1).toNatClampNeg)]) (rest := []) (nA := 1) 0 0 k589 n590 (fun ht => c_X12_taskAt htr (ht.sub [1] rfl) hw) (Or.inr rfl) 1 (κ := 13) rfl (by decide) (rfl : gCl[12]? = some (RX12, TX12, 65)) lk_vRL_230 (by decide +kernel) rfl rfl (by decide) (by decide) (by decide) rfl rfl (gD D_L_law_54 2 rfl) (fun x594 s595 hq hx hf => ?_)
  replace hw := hq hx hf
  clear hq hx hf
  refine v_istore X [(6, .int x594), (5, .int x585), (0, va_rf (some b)), (1, va_rf (some a1)), (2, va_rf (some a2)), (3, va_rf (some a3)), (4, .int x4)] (gD D_L_law_54 3 rfl) (by decide) rfl ?_
  refine v_aload_n X 4 rfl (gD D_L_law_54 4 rfl) rfl ?_
  refine v_callVi X (As := []) (rest := []) (nA := 0) 0 0 k589 n590 (fun ht => c_X12_thrown htr (ht.sub [1] rfl) hw) (Or.inr rfl) 1 (κ := 13) rfl (by decide) (rfl : gCl[12]? = some (RX12, TX12, 65)) lk_vRL_139 (by decide +kernel) rfl rfl (by decide) (by decide) (by decide) rfl rfl (gD D_L_law_54 5 rfl) (fun x596 s597 hq hx hf => ?_)
  replace hw := hq hx hf
  clear hq hx hf
  refine v_iload X 1 rfl (gD D_L_law_54 6 rfl) ?_
  refine v_icmp_eq X 1908 (gD D_L_law_54 7 rfl) (by decide) (fun c598 => ?_) (fun c598 => ?_)
  · replace hw := hw.1 c598
    refine v_iload X 1 rfl (gD D_L_law_54 10 rfl) ?_
    refine v_if_ne X 1925 (gD D_L_law_54 11 rfl) (by decide) (fun c599 => ?_) (fun c599 => ?_)
    · replace hw := hw.1 c599
      refine v_goto X 2730 (gD D_L_law_55 0 rfl) (by decide) ?_
      refine v_iinc X (x4 + 7) 6 rfl [(4, .int (x4 + 7)), (6, .int x594), (5, .int x585), (0, va_rf (some b)), (1, va_rf (some a1)), (2, va_rf (some a2)), (3, va_rf (some a3))] (gD D_L_law_80 3 rfl) rfl (by decide) rfl ?_
      refine v_goto X 23 (gD D_L_law_80 4 rfl) (by decide) ?_
      exact v_sub [0, 1, 2] [3, 4, 5, 6, 0] rfl rfl (hK23 a1 a2 a3 (x4 + 7) s597 k589 n590 hw)
    · replace hw := hw.2 c599
      refine v_aload_n X 5 rfl (gD D_L_law_54 12 rfl) rfl ?_
      refine v_iconst X 0 (gD D_L_law_54 13 rfl) (by decide) ?_
      obtain ⟨h600, hw⟩ := hw
      refine v_lald X 2 rfl h600 (gD D_L_law_54 14 rfl) ?_
      refine v_iload X 0 rfl (gD D_L_law_54 15 rfl) ?_
      refine v_i2l X (gD D_L_law_54 16 rfl) ?_
      refine v_lcmp X (gD D_L_law_54 17 rfl) ?_
      refine v_if_eq X 1925 (gD D_L_law_54 18 rfl) (by decide) (fun c601 => ?_) (fun c601 => ?_)
      · replace hw := hw.1 c601
        refine v_goto X 2730 (gD D_L_law_55 0 rfl) (by decide) ?_
        refine v_iinc X (x4 + 7) 6 rfl [(4, .int (x4 + 7)), (6, .int x594), (5, .int x585), (0, va_rf (some b)), (1, va_rf (some a1)), (2, va_rf (some a2)), (3, va_rf (some a3))] (gD D_L_law_80 3 rfl) rfl (by decide) rfl ?_
        refine v_goto X 23 (gD D_L_law_80 4 rfl) (by decide) ?_
        exact v_sub [0, 1, 2] [3, 4, 5, 6, 0] rfl rfl (hK23 a1 a2 a3 (x4 + 7) s597 k589 n590 hw)
      · replace hw := hw.2 c601
        refine v_iconst X 0 (gD D_L_law_54 19 rfl) (by decide) ?_
        exact hw.elim
  · replace hw := hw.2 c598
    refine v_iconst X 0 (gD D_L_law_54 8 rfl) (by decide) ?_
    exact hw.elim
set_option maxRecDepth 100000 in
set_option maxHeartbeats 4000000 in
theorem t_L_law_1928 {p : Program} {l : Launch} {e : Env} {s : State} {m : MethodId} {below : List Frame} {meth : Method} {c : Code} {G : GX} {σ0 : St} {b L : Nat} {xs : Nat → Int32} (X : VC p l room_1 s m #[Value.ref b] meth c G 11 601024 7293034 7 RL code) (hr : meth.sig.returnType = ret) (htr : l.stackTraces = false) (hX : va_X b L xs s s.heap ∧ b < s.heap.size ∧ ¬ GA G b) (hsz : ∀ q, GA G q → s.heap.size ≤ q) {K23 : Nat → Nat → Nat → Int32 → St → Nat → Nat → Prop} (hK23 : ∀ (a1 : Nat) (a2 : Nat) (a3 : Nat) (x4 : Int32) (σ : St) (k n : Nat), K23 a1 a2 a3 x4 σ k n → V p l e room_1 s m #[Value.ref b] below meth c (lw_Z below #[Value.ref b] s) G 0 σ0 601024 7293034 7 σ k n [(some a1, 12), (some a2, 13), (some a3, 23)] 23 [(0, va_rf (some b)), (1, va_rf (some a1)), (2, va_rf (some a2)), (3, va_rf (some a3)), (4, .int x4)] []) : ∀ (a1 : Nat) (a2 : Nat) (a3 : Nat) (x4 : Int32) (σ : St) (k n : Nat), w_L_law_1928 L xs K23 a1 a2 a3 x4 σ k n → V p l e room_1 s m #[Value.ref b] below meth c (lw_Z below #[Value.ref b] s) G 0 σ0 601024 7293034 7 σ k n [(some a1, 12), (some a2, 13), (some a3, 23)] 1928 [(0, va_rf (some b)), (1, va_rf (some a1)), (2, va_rf (some a2)), (3, va_rf (some a3)), (4, .int x4)] [] := by
  intro a1 a2 a3 x4 σ k n hw
  unfold w_L_law_1928 at hw
  refine v_aload_n X 1 rfl (gD D_L_law_55 1 rfl) rfl ?_
  refine v_callVi X (As := []) (rest := []) (nA := 0) 0 0 k n (fun ht => c_X11_standstills htr (ht.sub [0] rfl) hw) (Or.inr rfl) 0 (κ := 12) rfl (by decide) (rfl : gCl[11]? = some (RX11, TX11, 19)) lk_vRL_231 (by decide +kernel) rfl rfl (by decide) (by decide) (by decide) rfl rfl (gD D_L_law_55 2 rfl) (fun x602 s603 hq hx hf => ?_)
  replace hw := hq hx hf
  clear hq hx hf
  refine v_aload_n X 2 rfl (gD D_L_law_55 3 rfl) rfl ?_
  refine v_callVi X (As := []) (rest := [.int x602]) (nA := 0) 0 0 k n (fun ht => c_X12_standstills htr (ht.sub [1] rfl) hw) (Or.inr rfl) 1 (κ := 13) rfl (by decide) (rfl : gCl[12]? = some (RX12, TX12, 65)) lk_vRL_234 (by decide +kernel) rfl rfl (by simp [rf_cat, ct_i]) (by decide) (by decide) rfl rfl (gD D_L_law_55 4 rfl) (fun x604 s605 hq hx hf => ?_)
  replace hw := hq hx hf
  clear hq hx hf
  refine v_icmp_eq X 2730 (gD D_L_law_55 5 rfl) (by decide) (fun c606 => ?_) (fun c606 => ?_)
  · replace hw := hw.1 c606
    refine v_iinc X (x4 + 7) 4 rfl [(4, .int (x4 + 7)), (0, va_rf (some b)), (1, va_rf (some a1)), (2, va_rf (some a2)), (3, va_rf (some a3))] (gD D_L_law_80 3 rfl) rfl (by decide) rfl ?_
    refine v_goto X 23 (gD D_L_law_80 4 rfl) (by decide) ?_
    exact v_sub [0, 1, 2] [1, 2, 3, 4, 0] rfl rfl (hK23 a1 a2 a3 (x4 + 7) s605 k n hw)
  · replace hw := hw.2 c606
    refine v_iconst X 0 (gD D_L_law_55 6 rfl) (by decide) ?_
    exact hw.elim
set_option maxRecDepth 100000 in
set_option maxHeartbeats 4000000 in
theorem t_L_law_1941 {p : Program} {l : Launch} {e : Env} {s : State} {m : MethodId} {below : List Frame} {meth : Method} {c : Code} {G : GX} {σ0 : St} {b L : Nat} {xs : Nat → Int32} (X : VC p l room_1 s m #[Value.ref b] meth c G 11 601024 7293034 7 RL code) (hr : meth.sig.returnType = ret) (htr : l.stackTraces = false) (hX : va_X b L xs s s.heap ∧ b < s.heap.size ∧ ¬ GA G b) (hsz : ∀ q, GA G q → s.heap.size ≤ q) {K23 : Nat → Nat → Nat → Int32 → St → Nat → Nat → Prop} (hK23 : ∀ (a1 : Nat) (a2 : Nat) (a3 : Nat) (x4 : Int32) (σ : St) (k n : Nat), K23 a1 a2 a3 x4 σ k n → V p l e room_1 s m #[Value.ref b] below meth c (lw_Z below #[Value.ref b] s) G 0 σ0 601024 7293034 7 σ k n [(some a1, 12), (some a2, 13), (some a3, 23)] 23 [(0, va_rf (some b)), (1, va_rf (some a1)), (2, va_rf (some a2)), (3, va_rf (some a3)), (4, .int x4)] []) : ∀ (a1 : Nat) (a2 : Nat) (a3 : Nat) (x4 : Int32) (σ : St) (k n : Nat), w_L_law_1941 L xs K23 a1 a2 a3 x4 σ k n → V p l e room_1 s m #[Value.ref b] below meth c (lw_Z below #[Value.ref b] s) G 0 σ0 601024 7293034 7 σ k n [(some a1, 12), (some a2, 13), (some a3, 23)] 1941 [(0, va_rf (some b)), (1, va_rf (some a1)), (2, va_rf (some a2)), (3, va_rf (some a3)), (4, .int x4)] [] := by
  intro a1 a2 a3 x4 σ k n hw
  unfold w_L_law_1941 at hw
  refine v_aload_n X 1 rfl (gD D_L_law_55 8 rfl) rfl ?_
  refine v_aload_n X 0 rfl (gD D_L_law_55 9 rfl) rfl ?_
  refine v_iload X 4 rfl (gD D_L_law_55 10 rfl) ?_
  refine v_iconst X 1 (gD D_L_law_55 11 rfl) (by decide) ?_
  refine v_iadd X (gD D_L_law_55 12 rfl) ?_
  obtain ⟨h607, hw⟩ := hw
  refine v_sld X hX h607 (gD D_L_law_55 13 rfl) ?_
  refine v_aload_n X 0 rfl (gD D_L_law_55 14 rfl) rfl ?_
  refine v_iload X 4 rfl (gD D_L_law_55 15 rfl) ?_
  refine v_iconst X 2 (gD D_L_law_55 16 rfl) (by decide) ?_
  refine v_iadd X (gD D_L_law_55 17 rfl) ?_
  obtain ⟨h608, hw⟩ := hw
  refine v_sld X hX h608 (gD D_L_law_55 18 rfl) ?_
  refine v_aload_n X 0 rfl (gD D_L_law_55 19 rfl) rfl ?_
  refine v_iload X 4 rfl (gD D_L_law_55 20 rfl) ?_
  refine v_iconst X 3 (gD D_L_law_56 0 rfl) (by decide) ?_
  refine v_iadd X (gD D_L_law_56 1 rfl) ?_
  obtain ⟨h609, hw⟩ := hw
  refine v_sld X hX h609 (gD D_L_law_56 2 rfl) ?_
  refine v_aload_n X 3 rfl (gD D_L_law_56 3 rfl) rfl ?_
  obtain ⟨k612, n613, k614, n615, h616, h617, hw⟩ := hw
  refine v_callW X (As := [va_rf (some a1), .int (xs (x4 + 1).toNatClampNeg), .int (xs (x4 + 2).toNatClampNeg), .int (xs (x4 + 3).toNatClampNeg), va_rf (some a3)]) (rest := []) (nA := 5) k612 n613 k614 n615 (fun ht => c_L_lose htr (ht.sub [0, 2] rfl) hw) (Or.inr rfl) lk_sRL_235 (by decide +kernel) rfl rfl (by decide) (by decide) (by decide) h616 h617 (gD D_L_law_56 4 rfl) (fun x610 s611 hq hx hf => ?_)
  replace hw := hq hx hf
  clear hq hx hf
  refine v_istore X [(5, .int x610), (0, va_rf (some b)), (1, va_rf (some a1)), (2, va_rf (some a2)), (3, va_rf (some a3)), (4, .int x4)] (gD D_L_law_56 5 rfl) (by decide) rfl ?_
  refine v_aload_n X 3 rfl (gD D_L_law_56 6 rfl) rfl ?_
  refine v_aload_n X 1 rfl (gD D_L_law_56 7 rfl) rfl ?_
  refine v_iload X 5 rfl (gD D_L_law_56 8 rfl) ?_
  refine v_iconst X 1 (gD D_L_law_56 9 rfl) (by decide) ?_
  refine v_iadd X (gD D_L_law_56 10 rfl) ?_
  obtain ⟨h618, hw⟩ := hw
  refine v_sld X hX h618 (gD D_L_law_56 11 rfl) ?_
  refine v_aload_n X 1 rfl (gD D_L_law_56 12 rfl) rfl ?_
  refine v_iload X 5 rfl (gD D_L_law_56 13 rfl) ?_
  refine v_iconst X 2 (gD D_L_law_56 14 rfl) (by decide) ?_
  refine v_iadd X (gD D_L_law_56 15 rfl) ?_
  obtain ⟨h619, hw⟩ := hw
  refine v_sld X hX h619 (gD D_L_law_56 16 rfl) ?_
  refine v_aload_n X 1 rfl (gD D_L_law_56 17 rfl) rfl ?_
  refine v_iload X 5 rfl (gD D_L_law_56 18 rfl) ?_
  refine v_iconst X 3 (gD D_L_law_56 19 rfl) (by decide) ?_
  refine v_iadd X (gD D_L_law_56 20 rfl) ?_
  obtain ⟨h620, hw⟩ := hw
  refine v_sld X hX h620 (gD D_L_law_57 0 rfl) ?_
  refine v_callVi X (As := [.int (xs (x4 + 1).toNatClampNeg), .int (xs (x4 + 2).toNatClampNeg), .int (xs (x4 + 3).toNatClampNeg)]) (rest := []) (nA := 3) 0 0 k614 n615 (fun ht => c_X12_lose htr (ht.sub [1] rfl) hw) (Or.inr rfl) 1 (κ := 13) rfl (by decide) (rfl : gCl[12]? = some (RX12, TX12, 65)) lk_vRL_237 (by decide +kernel) rfl rfl (by decide) (by decide) (by decide) rfl rfl (gD D_L_law_57 1 rfl) (fun x621 s622 hq hx hf => ?_)
  replace hw := hq hx hf
  clear hq hx hf
  refine v_istore X [(6, .int x621), (5, .int x610), (0, va_rf (some b)), (1, va_rf (some a1)), (2, va_rf (some a2)), (3, va_rf (some a3)), (4, .int x4)] (gD D_L_law_57 2 rfl) (by decide) rfl ?_
  refine v_aload_n X 4 rfl (gD D_L_law_57 3 rfl) rfl ?_
  refine v_callVi X (As := []) (rest := []) (nA := 0) 0 0 k614 n615 (fun ht => c_X12_thrown htr (ht.sub [1] rfl) hw) (Or.inr rfl) 1 (κ := 13) rfl (by decide) (rfl : gCl[12]? = some (RX12, TX12, 65)) lk_vRL_139 (by decide +kernel) rfl rfl (by decide) (by decide) (by decide) rfl rfl (gD D_L_law_57 4 rfl) (fun x623 s624 hq hx hf => ?_)
  replace hw := hq hx hf
  clear hq hx hf
  refine v_iload X 1 rfl (gD D_L_law_57 5 rfl) ?_
  refine v_icmp_eq X 2001 (gD D_L_law_57 6 rfl) (by decide) (fun c625 => ?_) (fun c625 => ?_)
  · replace hw := hw.1 c625
    refine v_iload X 1 rfl (gD D_L_law_57 9 rfl) ?_
    refine v_if_ne X 2018 (gD D_L_law_57 10 rfl) (by decide) (fun c626 => ?_) (fun c626 => ?_)
    · replace hw := hw.1 c626
      refine v_goto X 2730 (gD D_L_law_57 20 rfl) (by decide) ?_
      refine v_iinc X (x4 + 7) 6 rfl [(4, .int (x4 + 7)), (6, .int x621), (5, .int x610), (0, va_rf (some b)), (1, va_rf (some a1)), (2, va_rf (some a2)), (3, va_rf (some a3))] (gD D_L_law_80 3 rfl) rfl (by decide) rfl ?_
      refine v_goto X 23 (gD D_L_law_80 4 rfl) (by decide) ?_
      exact v_sub [0, 1, 2] [3, 4, 5, 6, 0] rfl rfl (hK23 a1 a2 a3 (x4 + 7) s624 k614 n615 hw)
    · replace hw := hw.2 c626
      refine v_aload_n X 5 rfl (gD D_L_law_57 11 rfl) rfl ?_
      refine v_iconst X 0 (gD D_L_law_57 12 rfl) (by decide) ?_
      obtain ⟨h627, hw⟩ := hw
      refine v_lald X 2 rfl h627 (gD D_L_law_57 13 rfl) ?_
      refine v_iload X 0 rfl (gD D_L_law_57 14 rfl) ?_
      refine v_i2l X (gD D_L_law_57 15 rfl) ?_
      refine v_lcmp X (gD D_L_law_57 16 rfl) ?_
      refine v_if_eq X 2018 (gD D_L_law_57 17 rfl) (by decide) (fun c628 => ?_) (fun c628 => ?_)
      · replace hw := hw.1 c628
        refine v_goto X 2730 (gD D_L_law_57 20 rfl) (by decide) ?_
        refine v_iinc X (x4 + 7) 6 rfl [(4, .int (x4 + 7)), (6, .int x621), (5, .int x610), (0, va_rf (some b)), (1, va_rf (some a1)), (2, va_rf (some a2)), (3, va_rf (some a3))] (gD D_L_law_80 3 rfl) rfl (by decide) rfl ?_
        refine v_goto X 23 (gD D_L_law_80 4 rfl) (by decide) ?_
        exact v_sub [0, 1, 2] [3, 4, 5, 6, 0] rfl rfl (hK23 a1 a2 a3 (x4 + 7) s624 k614 n615 hw)
      · replace hw := hw.2 c628
        refine v_iconst X 0 (gD D_L_law_57 18 rfl) (by decide) ?_
        exact hw.elim
  · replace hw := hw.2 c625
    refine v_iconst X 0 (gD D_L_law_57 7 rfl) (by decide) ?_
    exact hw.elim
set_option maxRecDepth 100000 in
set_option maxHeartbeats 4000000 in
theorem t_L_law_2021 {p : Program} {l : Launch} {e : Env} {s : State} {m : MethodId} {below : List Frame} {meth : Method} {c : Code} {G : GX} {σ0 : St} {b L : Nat} {xs : Nat → Int32} (X : VC p l room_1 s m #[Value.ref b] meth c G 11 601024 7293034 7 RL code) (hr : meth.sig.returnType = ret) (htr : l.stackTraces = false) (hX : va_X b L xs s s.heap ∧ b < s.heap.size ∧ ¬ GA G b) (hsz : ∀ q, GA G q → s.heap.size ≤ q) {K23 : Nat → Nat → Nat → Int32 → St → Nat → Nat → Prop} (hK23 : ∀ (a1 : Nat) (a2 : Nat) (a3 : Nat) (x4 : Int32) (σ : St) (k n : Nat), K23 a1 a2 a3 x4 σ k n → V p l e room_1 s m #[Value.ref b] below meth c (lw_Z below #[Value.ref b] s) G 0 σ0 601024 7293034 7 σ k n [(some a1, 12), (some a2, 13), (some a3, 23)] 23 [(0, va_rf (some b)), (1, va_rf (some a1)), (2, va_rf (some a2)), (3, va_rf (some a3)), (4, .int x4)] []) : ∀ (a1 : Nat) (a2 : Nat) (a3 : Nat) (x4 : Int32) (σ : St) (k n : Nat), w_L_law_2021 L xs K23 a1 a2 a3 x4 σ k n → V p l e room_1 s m #[Value.ref b] below meth c (lw_Z below #[Value.ref b] s) G 0 σ0 601024 7293034 7 σ k n [(some a1, 12), (some a2, 13), (some a3, 23)] 2021 [(0, va_rf (some b)), (1, va_rf (some a1)), (2, va_rf (some a2)), (3, va_rf (some a3)), (4, .int x4)] [] := by
  intro a1 a2 a3 x4 σ k n hw
  unfold w_L_law_2021 at hw
  refine v_aload_n X 1 rfl (gD D_L_law_58 0 rfl) rfl ?_
  refine v_aload_n X 0 rfl (gD D_L_law_58 1 rfl) rfl ?_
  refine v_iload X 4 rfl (gD D_L_law_58 2 rfl) ?_
  refine v_iconst X 1 (gD D_L_law_58 3 rfl) (by decide) ?_
  refine v_iadd X (gD D_L_law_58 4 rfl) ?_
  obtain ⟨h629, hw⟩ := hw
  refine v_sld X hX h629 (gD D_L_law_58 5 rfl) ?_
  refine v_aload_n X 0 rfl (gD D_L_law_58 6 rfl) rfl ?_
  refine v_iload X 4 rfl (gD D_L_law_58 7 rfl) ?_
  refine v_iconst X 2 (gD D_L_law_58 8 rfl) (by decide) ?_
  refine v_iadd X (gD D_L_law_58 9 rfl) ?_
  obtain ⟨h630, hw⟩ := hw
  refine v_sld X hX h630 (gD D_L_law_58 10 rfl) ?_
  refine v_aload_n X 3 rfl (gD D_L_law_58 11 rfl) rfl ?_
  obtain ⟨k633, n634, k635, n636, h637, h638, hw⟩ := hw
  refine v_callW X (As := [va_rf (some a1), .int (xs (x4 + 1).toNatClampNeg), .int (xs (x4 + 2).toNatClampNeg), va_rf (some a3)]) (rest := []) (nA := 4) k633 n634 k635 n636 (fun ht => c_L_count htr (ht.sub [0, 2] rfl) hw) (Or.inr rfl) lk_sRL_238 (by decide +kernel) rfl rfl (by decide) (by decide) (by decide) h637 h638 (gD D_L_law_58 12 rfl) (fun x631 s632 hq hx hf => ?_)
  replace hw := hq hx hf
  clear hq hx hf
  refine v_istore X [(5, .int x631), (0, va_rf (some b)), (1, va_rf (some a1)), (2, va_rf (some a2)), (3, va_rf (some a3)), (4, .int x4)] (gD D_L_law_58 13 rfl) (by decide) rfl ?_
  refine v_aload_n X 3 rfl (gD D_L_law_58 14 rfl) rfl ?_
  refine v_aload_n X 1 rfl (gD D_L_law_58 15 rfl) rfl ?_
  refine v_iload X 5 rfl (gD D_L_law_58 16 rfl) ?_
  refine v_iconst X 1 (gD D_L_law_58 17 rfl) (by decide) ?_
  refine v_iadd X (gD D_L_law_58 18 rfl) ?_
  obtain ⟨h639, hw⟩ := hw
  refine v_sld X hX h639 (gD D_L_law_58 19 rfl) ?_
  refine v_aload_n X 1 rfl (gD D_L_law_58 20 rfl) rfl ?_
  refine v_iload X 5 rfl (gD D_L_law_59 0 rfl) ?_
  refine v_iconst X 2 (gD D_L_law_59 1 rfl) (by decide) ?_
  refine v_iadd X (gD D_L_law_59 2 rfl) ?_
  obtain ⟨h640, hw⟩ := hw
  refine v_sld X hX h640 (gD D_L_law_59 3 rfl) ?_
  refine v_callVi X (As := [.int (xs (x4 + 1).toNatClampNeg), .int (xs (x4 + 2).toNatClampNeg)]) (rest := []) (nA := 2) 0 0 k635 n636 (fun ht => c_X12_count htr (ht.sub [1] rfl) hw) (Or.inr rfl) 1 (κ := 13) rfl (by decide) (rfl : gCl[12]? = some (RX12, TX12, 65)) lk_vRL_240 (by decide +kernel) rfl rfl (by decide) (by decide) (by decide) rfl rfl (gD D_L_law_59 4 rfl) (fun x641 s642 hq hx hf => ?_)
  replace hw := hq hx hf
  clear hq hx hf
  refine v_istore X [(6, .int x641), (5, .int x631), (0, va_rf (some b)), (1, va_rf (some a1)), (2, va_rf (some a2)), (3, va_rf (some a3)), (4, .int x4)] (gD D_L_law_59 5 rfl) (by decide) rfl ?_
  refine v_aload_n X 4 rfl (gD D_L_law_59 6 rfl) rfl ?_
  refine v_callVi X (As := []) (rest := []) (nA := 0) 0 0 k635 n636 (fun ht => c_X12_thrown htr (ht.sub [1] rfl) hw) (Or.inr rfl) 1 (κ := 13) rfl (by decide) (rfl : gCl[12]? = some (RX12, TX12, 65)) lk_vRL_139 (by decide +kernel) rfl rfl (by decide) (by decide) (by decide) rfl rfl (gD D_L_law_59 7 rfl) (fun x643 s644 hq hx hf => ?_)
  replace hw := hq hx hf
  clear hq hx hf
  refine v_iload X 1 rfl (gD D_L_law_59 8 rfl) ?_
  refine v_icmp_eq X 2069 (gD D_L_law_59 9 rfl) (by decide) (fun c645 => ?_) (fun c645 => ?_)
  · replace hw := hw.1 c645
    refine v_iload X 1 rfl (gD D_L_law_59 12 rfl) ?_
    refine v_if_ne X 2086 (gD D_L_law_59 13 rfl) (by decide) (fun c646 => ?_) (fun c646 => ?_)
    · replace hw := hw.1 c646
      refine v_goto X 2730 (gD D_L_law_60 2 rfl) (by decide) ?_
      refine v_iinc X (x4 + 7) 6 rfl [(4, .int (x4 + 7)), (6, .int x641), (5, .int x631), (0, va_rf (some b)), (1, va_rf (some a1)), (2, va_rf (some a2)), (3, va_rf (some a3))] (gD D_L_law_80 3 rfl) rfl (by decide) rfl ?_
      refine v_goto X 23 (gD D_L_law_80 4 rfl) (by decide) ?_
      exact v_sub [0, 1, 2] [3, 4, 5, 6, 0] rfl rfl (hK23 a1 a2 a3 (x4 + 7) s644 k635 n636 hw)
    · replace hw := hw.2 c646
      refine v_aload_n X 5 rfl (gD D_L_law_59 14 rfl) rfl ?_
      refine v_iconst X 0 (gD D_L_law_59 15 rfl) (by decide) ?_
      obtain ⟨h647, hw⟩ := hw
      refine v_lald X 2 rfl h647 (gD D_L_law_59 16 rfl) ?_
      refine v_iload X 0 rfl (gD D_L_law_59 17 rfl) ?_
      refine v_i2l X (gD D_L_law_59 18 rfl) ?_
      refine v_lcmp X (gD D_L_law_59 19 rfl) ?_
      refine v_if_eq X 2086 (gD D_L_law_59 20 rfl) (by decide) (fun c648 => ?_) (fun c648 => ?_)
      · replace hw := hw.1 c648
        refine v_goto X 2730 (gD D_L_law_60 2 rfl) (by decide) ?_
        refine v_iinc X (x4 + 7) 6 rfl [(4, .int (x4 + 7)), (6, .int x641), (5, .int x631), (0, va_rf (some b)), (1, va_rf (some a1)), (2, va_rf (some a2)), (3, va_rf (some a3))] (gD D_L_law_80 3 rfl) rfl (by decide) rfl ?_
        refine v_goto X 23 (gD D_L_law_80 4 rfl) (by decide) ?_
        exact v_sub [0, 1, 2] [3, 4, 5, 6, 0] rfl rfl (hK23 a1 a2 a3 (x4 + 7) s644 k635 n636 hw)
      · replace hw := hw.2 c648
        refine v_iconst X 0 (gD D_L_law_60 0 rfl) (by decide) ?_
        exact hw.elim
  · replace hw := hw.2 c645
    refine v_iconst X 0 (gD D_L_law_59 10 rfl) (by decide) ?_
    exact hw.elim
set_option maxRecDepth 100000 in
set_option maxHeartbeats 4000000 in
theorem t_L_law_2089 {p : Program} {l : Launch} {e : Env} {s : State} {m : MethodId} {below : List Frame} {meth : Method} {c : Code} {G : GX} {σ0 : St} {b L : Nat} {xs : Nat → Int32} (X : VC p l room_1 s m #[Value.ref b] meth c G 11 601024 7293034 7 RL code) (hr : meth.sig.returnType = ret) (htr : l.stackTraces = false) (hX : va_X b L xs s s.heap ∧ b < s.heap.size ∧ ¬ GA G b) (hsz : ∀ q, GA G q → s.heap.size ≤ q) {K23 : Nat → Nat → Nat → Int32 → St → Nat → Nat → Prop} (hK23 : ∀ (a1 : Nat) (a2 : Nat) (a3 : Nat) (x4 : Int32) (σ : St) (k n : Nat), K23 a1 a2 a3 x4 σ k n → V p l e room_1 s m #[Value.ref b] below meth c (lw_Z below #[Value.ref b] s) G 0 σ0 601024 7293034 7 σ k n [(some a1, 12), (some a2, 13), (some a3, 23)] 23 [(0, va_rf (some b)), (1, va_rf (some a1)), (2, va_rf (some a2)), (3, va_rf (some a3)), (4, .int x4)] []) : ∀ (a1 : Nat) (a2 : Nat) (a3 : Nat) (x4 : Int32) (σ : St) (k n : Nat), w_L_law_2089 L xs K23 a1 a2 a3 x4 σ k n → V p l e room_1 s m #[Value.ref b] below meth c (lw_Z below #[Value.ref b] s) G 0 σ0 601024 7293034 7 σ k n [(some a1, 12), (some a2, 13), (some a3, 23)] 2089 [(0, va_rf (some b)), (1, va_rf (some a1)), (2, va_rf (some a2)), (3, va_rf (some a3)), (4, .int x4)] [] := by
  intro a1 a2 a3 x4 σ k n hw
  unfold w_L_law_2089 at hw
  refine v_aload_n X 1 rfl (gD D_L_law_60 3 rfl) rfl ?_
  refine v_aload_n X 0 rfl (gD D_L_law_60 4 rfl) rfl ?_
  refine v_iload X 4 rfl (gD D_L_law_60 5 rfl) ?_
  refine v_iconst X 1 (gD D_L_law_60 6 rfl) (by decide) ?_
  refine v_iadd X (gD D_L_law_60 7 rfl) ?_
  obtain ⟨h649, hw⟩ := hw
  refine v_sld X hX h649 (gD D_L_law_60 8 rfl) ?_
  refine v_aload_n X 0 rfl (gD D_L_law_60 9 rfl) rfl ?_
  refine v_iload X 4 rfl (gD D_L_law_60 10 rfl) ?_
  refine v_iconst X 2 (gD D_L_law_60 11 rfl) (by decide) ?_
  refine v_iadd X (gD D_L_law_60 12 rfl) ?_
  obtain ⟨h650, hw⟩ := hw
  refine v_sld X hX h650 (gD D_L_law_60 13 rfl) ?_
  refine v_aload_n X 0 rfl (gD D_L_law_60 14 rfl) rfl ?_
  refine v_iload X 4 rfl (gD D_L_law_60 15 rfl) ?_
  refine v_iconst X 3 (gD D_L_law_60 16 rfl) (by decide) ?_
  refine v_iadd X (gD D_L_law_60 17 rfl) ?_
  obtain ⟨h651, hw⟩ := hw
  refine v_sld X hX h651 (gD D_L_law_60 18 rfl) ?_
  refine v_aload_n X 3 rfl (gD D_L_law_60 19 rfl) rfl ?_
  obtain ⟨k654, n655, k656, n657, h658, h659, hw⟩ := hw
  refine v_callW X (As := [va_rf (some a1), .int (xs (x4 + 1).toNatClampNeg), .int (xs (x4 + 2).toNatClampNeg), .int (xs (x4 + 3).toNatClampNeg), va_rf (some a3)]) (rest := []) (nA := 5) k654 n655 k656 n657 (fun ht => c_L_find htr (ht.sub [0, 2] rfl) hw) (Or.inr rfl) lk_sRL_241 (by decide +kernel) rfl rfl (by decide) (by decide) (by decide) h658 h659 (gD D_L_law_60 20 rfl) (fun x652 s653 hq hx hf => ?_)
  replace hw := hq hx hf
  clear hq hx hf
  refine v_istore X [(5, .int x652), (0, va_rf (some b)), (1, va_rf (some a1)), (2, va_rf (some a2)), (3, va_rf (some a3)), (4, .int x4)] (gD D_L_law_61 0 rfl) (by decide) rfl ?_
  refine v_aload_n X 3 rfl (gD D_L_law_61 1 rfl) rfl ?_
  refine v_aload_n X 1 rfl (gD D_L_law_61 2 rfl) rfl ?_
  refine v_iload X 5 rfl (gD D_L_law_61 3 rfl) ?_
  refine v_iconst X 1 (gD D_L_law_61 4 rfl) (by decide) ?_
  refine v_iadd X (gD D_L_law_61 5 rfl) ?_
  obtain ⟨h660, hw⟩ := hw
  refine v_sld X hX h660 (gD D_L_law_61 6 rfl) ?_
  refine v_aload_n X 1 rfl (gD D_L_law_61 7 rfl) rfl ?_
  refine v_iload X 5 rfl (gD D_L_law_61 8 rfl) ?_
  refine v_iconst X 2 (gD D_L_law_61 9 rfl) (by decide) ?_
  refine v_iadd X (gD D_L_law_61 10 rfl) ?_
  obtain ⟨h661, hw⟩ := hw
  refine v_sld X hX h661 (gD D_L_law_61 11 rfl) ?_
  refine v_aload_n X 1 rfl (gD D_L_law_61 12 rfl) rfl ?_
  refine v_iload X 5 rfl (gD D_L_law_61 13 rfl) ?_
  refine v_iconst X 3 (gD D_L_law_61 14 rfl) (by decide) ?_
  refine v_iadd X (gD D_L_law_61 15 rfl) ?_
  obtain ⟨h662, hw⟩ := hw
  refine v_sld X hX h662 (gD D_L_law_61 16 rfl) ?_
  refine v_callVi X (As := [.int (xs (x4 + 1).toNatClampNeg), .int (xs (x4 + 2).toNatClampNeg), .int (xs (x4 + 3).toNatClampNeg)]) (rest := []) (nA := 3) 0 0 k656 n657 (fun ht => c_X12_find htr (ht.sub [1] rfl) hw) (Or.inr rfl) 1 (κ := 13) rfl (by decide) (rfl : gCl[12]? = some (RX12, TX12, 65)) lk_vRL_243 (by decide +kernel) rfl rfl (by decide) (by decide) (by decide) rfl rfl (gD D_L_law_61 17 rfl) (fun x663 s664 hq hx hf => ?_)
  replace hw := hq hx hf
  clear hq hx hf
  refine v_istore X [(6, .int x663), (5, .int x652), (0, va_rf (some b)), (1, va_rf (some a1)), (2, va_rf (some a2)), (3, va_rf (some a3)), (4, .int x4)] (gD D_L_law_61 18 rfl) (by decide) rfl ?_
  refine v_aload_n X 4 rfl (gD D_L_law_61 19 rfl) rfl ?_
  refine v_callVi X (As := []) (rest := []) (nA := 0) 0 0 k656 n657 (fun ht => c_X12_thrown htr (ht.sub [1] rfl) hw) (Or.inr rfl) 1 (κ := 13) rfl (by decide) (rfl : gCl[12]? = some (RX12, TX12, 65)) lk_vRL_139 (by decide +kernel) rfl rfl (by decide) (by decide) (by decide) rfl rfl (gD D_L_law_61 20 rfl) (fun x665 s666 hq hx hf => ?_)
  replace hw := hq hx hf
  clear hq hx hf
  refine v_iload X 1 rfl (gD D_L_law_62 0 rfl) ?_
  refine v_icmp_eq X 2149 (gD D_L_law_62 1 rfl) (by decide) (fun c667 => ?_) (fun c667 => ?_)
  · replace hw := hw.1 c667
    refine v_iload X 1 rfl (gD D_L_law_62 4 rfl) ?_
    refine v_if_ne X 2166 (gD D_L_law_62 5 rfl) (by decide) (fun c668 => ?_) (fun c668 => ?_)
    · replace hw := hw.1 c668
      refine v_goto X 2730 (gD D_L_law_62 15 rfl) (by decide) ?_
      refine v_iinc X (x4 + 7) 6 rfl [(4, .int (x4 + 7)), (6, .int x663), (5, .int x652), (0, va_rf (some b)), (1, va_rf (some a1)), (2, va_rf (some a2)), (3, va_rf (some a3))] (gD D_L_law_80 3 rfl) rfl (by decide) rfl ?_
      refine v_goto X 23 (gD D_L_law_80 4 rfl) (by decide) ?_
      exact v_sub [0, 1, 2] [3, 4, 5, 6, 0] rfl rfl (hK23 a1 a2 a3 (x4 + 7) s666 k656 n657 hw)
    · replace hw := hw.2 c668
      refine v_aload_n X 5 rfl (gD D_L_law_62 6 rfl) rfl ?_
      refine v_iconst X 0 (gD D_L_law_62 7 rfl) (by decide) ?_
      obtain ⟨h669, hw⟩ := hw
      refine v_lald X 2 rfl h669 (gD D_L_law_62 8 rfl) ?_
      refine v_iload X 0 rfl (gD D_L_law_62 9 rfl) ?_
      refine v_i2l X (gD D_L_law_62 10 rfl) ?_
      refine v_lcmp X (gD D_L_law_62 11 rfl) ?_
      refine v_if_eq X 2166 (gD D_L_law_62 12 rfl) (by decide) (fun c670 => ?_) (fun c670 => ?_)
      · replace hw := hw.1 c670
        refine v_goto X 2730 (gD D_L_law_62 15 rfl) (by decide) ?_
        refine v_iinc X (x4 + 7) 6 rfl [(4, .int (x4 + 7)), (6, .int x663), (5, .int x652), (0, va_rf (some b)), (1, va_rf (some a1)), (2, va_rf (some a2)), (3, va_rf (some a3))] (gD D_L_law_80 3 rfl) rfl (by decide) rfl ?_
        refine v_goto X 23 (gD D_L_law_80 4 rfl) (by decide) ?_
        exact v_sub [0, 1, 2] [3, 4, 5, 6, 0] rfl rfl (hK23 a1 a2 a3 (x4 + 7) s666 k656 n657 hw)
      · replace hw := hw.2 c670
        refine v_iconst X 0 (gD D_L_law_62 13 rfl) (by decide) ?_
        exact hw.elim
  · replace hw := hw.2 c667
    refine v_iconst X 0 (gD D_L_law_62 2 rfl) (by decide) ?_
    exact hw.elim
set_option maxRecDepth 100000 in
set_option maxHeartbeats 4000000 in
theorem t_L_law_2169 {p : Program} {l : Launch} {e : Env} {s : State} {m : MethodId} {below : List Frame} {meth : Method} {c : Code} {G : GX} {σ0 : St} {b L : Nat} {xs : Nat → Int32} (X : VC p l room_1 s m #[Value.ref b] meth c G 11 601024 7293034 7 RL code) (hr : meth.sig.returnType = ret) (htr : l.stackTraces = false) (hX : va_X b L xs s s.heap ∧ b < s.heap.size ∧ ¬ GA G b) (hsz : ∀ q, GA G q → s.heap.size ≤ q) {K23 : Nat → Nat → Nat → Int32 → St → Nat → Nat → Prop} (hK23 : ∀ (a1 : Nat) (a2 : Nat) (a3 : Nat) (x4 : Int32) (σ : St) (k n : Nat), K23 a1 a2 a3 x4 σ k n → V p l e room_1 s m #[Value.ref b] below meth c (lw_Z below #[Value.ref b] s) G 0 σ0 601024 7293034 7 σ k n [(some a1, 12), (some a2, 13), (some a3, 23)] 23 [(0, va_rf (some b)), (1, va_rf (some a1)), (2, va_rf (some a2)), (3, va_rf (some a3)), (4, .int x4)] []) : ∀ (a1 : Nat) (a2 : Nat) (a3 : Nat) (x4 : Int32) (σ : St) (k n : Nat), w_L_law_2169 L xs K23 a1 a2 a3 x4 σ k n → V p l e room_1 s m #[Value.ref b] below meth c (lw_Z below #[Value.ref b] s) G 0 σ0 601024 7293034 7 σ k n [(some a1, 12), (some a2, 13), (some a3, 23)] 2169 [(0, va_rf (some b)), (1, va_rf (some a1)), (2, va_rf (some a2)), (3, va_rf (some a3)), (4, .int x4)] [] := by
  intro a1 a2 a3 x4 σ k n hw
  unfold w_L_law_2169 at hw
  refine v_aload_n X 1 rfl (gD D_L_law_62 16 rfl) rfl ?_
  refine v_aload_n X 0 rfl (gD D_L_law_62 17 rfl) rfl ?_
  refine v_iload X 4 rfl (gD D_L_law_62 18 rfl) ?_
  refine v_iconst X 1 (gD D_L_law_62 19 rfl) (by decide) ?_
  refine v_iadd X (gD D_L_law_62 20 rfl) ?_
  obtain ⟨h671, hw⟩ := hw
  refine v_sld X hX h671 (gD D_L_law_63 0 rfl) ?_
  refine v_aload_n X 3 rfl (gD D_L_law_63 1 rfl) rfl ?_
  obtain ⟨k674, n675, k676, n677, h678, h679, hw⟩ := hw
  refine v_callW X (As := [va_rf (some a1), .int (xs (x4 + 1).toNatClampNeg), va_rf (some a3)]) (rest := []) (nA := 3) k674 n675 k676 n677 (fun ht => c_L_boxes htr (ht.sub [0, 2] rfl) hw) (Or.inr rfl) lk_sRL_244 (by decide +kernel) rfl rfl (by decide) (by decide) (by decide) h678 h679 (gD D_L_law_63 2 rfl) (fun x672 s673 hq hx hf => ?_)
  replace hw := hq hx hf
  clear hq hx hf
  refine v_istore X [(5, .int x672), (0, va_rf (some b)), (1, va_rf (some a1)), (2, va_rf (some a2)), (3, va_rf (some a3)), (4, .int x4)] (gD D_L_law_63 3 rfl) (by decide) rfl ?_
  refine v_aload_n X 3 rfl (gD D_L_law_63 4 rfl) rfl ?_
  refine v_aload_n X 1 rfl (gD D_L_law_63 5 rfl) rfl ?_
  refine v_iload X 5 rfl (gD D_L_law_63 6 rfl) ?_
  refine v_iconst X 1 (gD D_L_law_63 7 rfl) (by decide) ?_
  refine v_iadd X (gD D_L_law_63 8 rfl) ?_
  obtain ⟨h680, hw⟩ := hw
  refine v_sld X hX h680 (gD D_L_law_63 9 rfl) ?_
  refine v_callVi X (As := [.int (xs (x4 + 1).toNatClampNeg)]) (rest := []) (nA := 1) 0 0 k676 n677 (fun ht => c_X12_boxes htr (ht.sub [1] rfl) hw) (Or.inr rfl) 1 (κ := 13) rfl (by decide) (rfl : gCl[12]? = some (RX12, TX12, 65)) lk_vRL_246 (by decide +kernel) rfl rfl (by decide) (by decide) (by decide) rfl rfl (gD D_L_law_63 10 rfl) (fun x681 s682 hq hx hf => ?_)
  replace hw := hq hx hf
  clear hq hx hf
  refine v_istore X [(6, .int x681), (5, .int x672), (0, va_rf (some b)), (1, va_rf (some a1)), (2, va_rf (some a2)), (3, va_rf (some a3)), (4, .int x4)] (gD D_L_law_63 11 rfl) (by decide) rfl ?_
  refine v_aload_n X 4 rfl (gD D_L_law_63 12 rfl) rfl ?_
  refine v_callVi X (As := []) (rest := []) (nA := 0) 0 0 k676 n677 (fun ht => c_X12_thrown htr (ht.sub [1] rfl) hw) (Or.inr rfl) 1 (κ := 13) rfl (by decide) (rfl : gCl[12]? = some (RX12, TX12, 65)) lk_vRL_139 (by decide +kernel) rfl rfl (by decide) (by decide) (by decide) rfl rfl (gD D_L_law_63 13 rfl) (fun x683 s684 hq hx hf => ?_)
  replace hw := hq hx hf
  clear hq hx hf
  refine v_iload X 1 rfl (gD D_L_law_63 14 rfl) ?_
  refine v_icmp_eq X 2205 (gD D_L_law_63 15 rfl) (by decide) (fun c685 => ?_) (fun c685 => ?_)
  · replace hw := hw.1 c685
    refine v_iload X 1 rfl (gD D_L_law_63 18 rfl) ?_
    refine v_if_ne X 2222 (gD D_L_law_63 19 rfl) (by decide) (fun c686 => ?_) (fun c686 => ?_)
    · replace hw := hw.1 c686
      refine v_goto X 2730 (gD D_L_law_64 8 rfl) (by decide) ?_
      refine v_iinc X (x4 + 7) 6 rfl [(4, .int (x4 + 7)), (6, .int x681), (5, .int x672), (0, va_rf (some b)), (1, va_rf (some a1)), (2, va_rf (some a2)), (3, va_rf (some a3))] (gD D_L_law_80 3 rfl) rfl (by decide) rfl ?_
      refine v_goto X 23 (gD D_L_law_80 4 rfl) (by decide) ?_
      exact v_sub [0, 1, 2] [3, 4, 5, 6, 0] rfl rfl (hK23 a1 a2 a3 (x4 + 7) s684 k676 n677 hw)
    · replace hw := hw.2 c686
      refine v_aload_n X 5 rfl (gD D_L_law_63 20 rfl) rfl ?_
      refine v_iconst X 0 (gD D_L_law_64 0 rfl) (by decide) ?_
      obtain ⟨h687, hw⟩ := hw
      refine v_lald X 2 rfl h687 (gD D_L_law_64 1 rfl) ?_
      refine v_iload X 0 rfl (gD D_L_law_64 2 rfl) ?_
      refine v_i2l X (gD D_L_law_64 3 rfl) ?_
      refine v_lcmp X (gD D_L_law_64 4 rfl) ?_
      refine v_if_eq X 2222 (gD D_L_law_64 5 rfl) (by decide) (fun c688 => ?_) (fun c688 => ?_)
      · replace hw := hw.1 c688
        refine v_goto X 2730 (gD D_L_law_64 8 rfl) (by decide) ?_
        refine v_iinc X (x4 + 7) 6 rfl [(4, .int (x4 + 7)), (6, .int x681), (5, .int x672), (0, va_rf (some b)), (1, va_rf (some a1)), (2, va_rf (some a2)), (3, va_rf (some a3))] (gD D_L_law_80 3 rfl) rfl (by decide) rfl ?_
        refine v_goto X 23 (gD D_L_law_80 4 rfl) (by decide) ?_
        exact v_sub [0, 1, 2] [3, 4, 5, 6, 0] rfl rfl (hK23 a1 a2 a3 (x4 + 7) s684 k676 n677 hw)
      · replace hw := hw.2 c688
        refine v_iconst X 0 (gD D_L_law_64 6 rfl) (by decide) ?_
        exact hw.elim
  · replace hw := hw.2 c685
    refine v_iconst X 0 (gD D_L_law_63 16 rfl) (by decide) ?_
    exact hw.elim
set_option maxRecDepth 100000 in
set_option maxHeartbeats 4000000 in
theorem t_L_law_2225 {p : Program} {l : Launch} {e : Env} {s : State} {m : MethodId} {below : List Frame} {meth : Method} {c : Code} {G : GX} {σ0 : St} {b L : Nat} {xs : Nat → Int32} (X : VC p l room_1 s m #[Value.ref b] meth c G 11 601024 7293034 7 RL code) (hr : meth.sig.returnType = ret) (htr : l.stackTraces = false) (hX : va_X b L xs s s.heap ∧ b < s.heap.size ∧ ¬ GA G b) (hsz : ∀ q, GA G q → s.heap.size ≤ q) {K23 : Nat → Nat → Nat → Int32 → St → Nat → Nat → Prop} (hK23 : ∀ (a1 : Nat) (a2 : Nat) (a3 : Nat) (x4 : Int32) (σ : St) (k n : Nat), K23 a1 a2 a3 x4 σ k n → V p l e room_1 s m #[Value.ref b] below meth c (lw_Z below #[Value.ref b] s) G 0 σ0 601024 7293034 7 σ k n [(some a1, 12), (some a2, 13), (some a3, 23)] 23 [(0, va_rf (some b)), (1, va_rf (some a1)), (2, va_rf (some a2)), (3, va_rf (some a3)), (4, .int x4)] []) : ∀ (a1 : Nat) (a2 : Nat) (a3 : Nat) (x4 : Int32) (σ : St) (k n : Nat), w_L_law_2225 L xs K23 a1 a2 a3 x4 σ k n → V p l e room_1 s m #[Value.ref b] below meth c (lw_Z below #[Value.ref b] s) G 0 σ0 601024 7293034 7 σ k n [(some a1, 12), (some a2, 13), (some a3, 23)] 2225 [(0, va_rf (some b)), (1, va_rf (some a1)), (2, va_rf (some a2)), (3, va_rf (some a3)), (4, .int x4)] [] := by
  intro a1 a2 a3 x4 σ k n hw
  unfold w_L_law_2225 at hw
  refine v_aload_n X 1 rfl (gD D_L_law_64 9 rfl) rfl ?_
  refine v_aload_n X 0 rfl (gD D_L_law_64 10 rfl) rfl ?_
  refine v_iload X 4 rfl (gD D_L_law_64 11 rfl) ?_
  refine v_iconst X 1 (gD D_L_law_64 12 rfl) (by decide) ?_
  refine v_iadd X (gD D_L_law_64 13 rfl) ?_
  obtain ⟨h689, hw⟩ := hw
  refine v_sld X hX h689 (gD D_L_law_64 14 rfl) ?_
  refine v_aload_n X 0 rfl (gD D_L_law_64 15 rfl) rfl ?_
  refine v_iload X 4 rfl (gD D_L_law_64 16 rfl) ?_
  refine v_iconst X 2 (gD D_L_law_64 17 rfl) (by decide) ?_
  refine v_iadd X (gD D_L_law_64 18 rfl) ?_
  obtain ⟨h690, hw⟩ := hw
  refine v_sld X hX h690 (gD D_L_law_64 19 rfl) ?_
  refine v_aload_n X 3 rfl (gD D_L_law_64 20 rfl) rfl ?_
  obtain ⟨k693, n694, k695, n696, h697, h698, hw⟩ := hw
  refine v_callW X (As := [va_rf (some a1), .int (xs (x4 + 1).toNatClampNeg), .int (xs (x4 + 2).toNatClampNeg), va_rf (some a3)]) (rest := []) (nA := 4) k693 n694 k695 n696 (fun ht => c_L_boxAt htr (ht.sub [0, 2] rfl) hw) (Or.inr rfl) lk_sRL_247 (by decide +kernel) rfl rfl (by decide) (by decide) (by decide) h697 h698 (gD D_L_law_65 0 rfl) (fun x691 s692 hq hx hf => ?_)
  replace hw := hq hx hf
  clear hq hx hf
  refine v_istore X [(5, .int x691), (0, va_rf (some b)), (1, va_rf (some a1)), (2, va_rf (some a2)), (3, va_rf (some a3)), (4, .int x4)] (gD D_L_law_65 1 rfl) (by decide) rfl ?_
  refine v_aload_n X 3 rfl (gD D_L_law_65 2 rfl) rfl ?_
  refine v_aload_n X 1 rfl (gD D_L_law_65 3 rfl) rfl ?_
  refine v_iload X 5 rfl (gD D_L_law_65 4 rfl) ?_
  refine v_iconst X 1 (gD D_L_law_65 5 rfl) (by decide) ?_
  refine v_iadd X (gD D_L_law_65 6 rfl) ?_
  obtain ⟨h699, hw⟩ := hw
  refine v_sld X hX h699 (gD D_L_law_65 7 rfl) ?_
  refine v_aload_n X 1 rfl (gD D_L_law_65 8 rfl) rfl ?_
  refine v_iload X 5 rfl (gD D_L_law_65 9 rfl) ?_
  refine v_iconst X 2 (gD D_L_law_65 10 rfl) (by decide) ?_
  refine v_iadd X (gD D_L_law_65 11 rfl) ?_
  obtain ⟨h700, hw⟩ := hw
  refine v_sld X hX h700 (gD D_L_law_65 12 rfl) ?_
  refine v_callVi X (As := [.int (xs (x4 + 1).toNatClampNeg), .int (xs (x4 + 2).toNatClampNeg)]) (rest := []) (nA := 2) 0 0 k695 n696 (fun ht => c_X12_boxAt htr (ht.sub [1] rfl) hw) (Or.inr rfl) 1 (κ := 13) rfl (by decide) (rfl : gCl[12]? = some (RX12, TX12, 65)) lk_vRL_249 (by decide +kernel) rfl rfl (by decide) (by decide) (by decide) rfl rfl (gD D_L_law_65 13 rfl) (fun x701 s702 hq hx hf => ?_)
  replace hw := hq hx hf
  clear hq hx hf
  refine v_istore X [(6, .int x701), (5, .int x691), (0, va_rf (some b)), (1, va_rf (some a1)), (2, va_rf (some a2)), (3, va_rf (some a3)), (4, .int x4)] (gD D_L_law_65 14 rfl) (by decide) rfl ?_
  refine v_aload_n X 4 rfl (gD D_L_law_65 15 rfl) rfl ?_
  refine v_callVi X (As := []) (rest := []) (nA := 0) 0 0 k695 n696 (fun ht => c_X12_thrown htr (ht.sub [1] rfl) hw) (Or.inr rfl) 1 (κ := 13) rfl (by decide) (rfl : gCl[12]? = some (RX12, TX12, 65)) lk_vRL_139 (by decide +kernel) rfl rfl (by decide) (by decide) (by decide) rfl rfl (gD D_L_law_65 16 rfl) (fun x703 s704 hq hx hf => ?_)
  replace hw := hq hx hf
  clear hq hx hf
  refine v_iload X 1 rfl (gD D_L_law_65 17 rfl) ?_
  refine v_icmp_eq X 2273 (gD D_L_law_65 18 rfl) (by decide) (fun c705 => ?_) (fun c705 => ?_)
  · replace hw := hw.1 c705
    refine v_iload X 1 rfl (gD D_L_law_66 0 rfl) ?_
    refine v_if_ne X 2290 (gD D_L_law_66 1 rfl) (by decide) (fun c706 => ?_) (fun c706 => ?_)
    · replace hw := hw.1 c706
      refine v_goto X 2730 (gD D_L_law_66 11 rfl) (by decide) ?_
      refine v_iinc X (x4 + 7) 6 rfl [(4, .int (x4 + 7)), (6, .int x701), (5, .int x691), (0, va_rf (some b)), (1, va_rf (some a1)), (2, va_rf (some a2)), (3, va_rf (some a3))] (gD D_L_law_80 3 rfl) rfl (by decide) rfl ?_
      refine v_goto X 23 (gD D_L_law_80 4 rfl) (by decide) ?_
      exact v_sub [0, 1, 2] [3, 4, 5, 6, 0] rfl rfl (hK23 a1 a2 a3 (x4 + 7) s704 k695 n696 hw)
    · replace hw := hw.2 c706
      refine v_aload_n X 5 rfl (gD D_L_law_66 2 rfl) rfl ?_
      refine v_iconst X 0 (gD D_L_law_66 3 rfl) (by decide) ?_
      obtain ⟨h707, hw⟩ := hw
      refine v_lald X 2 rfl h707 (gD D_L_law_66 4 rfl) ?_
      refine v_iload X 0 rfl (gD D_L_law_66 5 rfl) ?_
      refine v_i2l X (gD D_L_law_66 6 rfl) ?_
      refine v_lcmp X (gD D_L_law_66 7 rfl) ?_
      refine v_if_eq X 2290 (gD D_L_law_66 8 rfl) (by decide) (fun c708 => ?_) (fun c708 => ?_)
      · replace hw := hw.1 c708
        refine v_goto X 2730 (gD D_L_law_66 11 rfl) (by decide) ?_
        refine v_iinc X (x4 + 7) 6 rfl [(4, .int (x4 + 7)), (6, .int x701), (5, .int x691), (0, va_rf (some b)), (1, va_rf (some a1)), (2, va_rf (some a2)), (3, va_rf (some a3))] (gD D_L_law_80 3 rfl) rfl (by decide) rfl ?_
        refine v_goto X 23 (gD D_L_law_80 4 rfl) (by decide) ?_
        exact v_sub [0, 1, 2] [3, 4, 5, 6, 0] rfl rfl (hK23 a1 a2 a3 (x4 + 7) s704 k695 n696 hw)
      · replace hw := hw.2 c708
        refine v_iconst X 0 (gD D_L_law_66 9 rfl) (by decide) ?_
        exact hw.elim
  · replace hw := hw.2 c705
    refine v_iconst X 0 (gD D_L_law_65 19 rfl) (by decide) ?_
    exact hw.elim
set_option maxRecDepth 100000 in
set_option maxHeartbeats 4000000 in
theorem t_L_law_2293 {p : Program} {l : Launch} {e : Env} {s : State} {m : MethodId} {below : List Frame} {meth : Method} {c : Code} {G : GX} {σ0 : St} {b L : Nat} {xs : Nat → Int32} (X : VC p l room_1 s m #[Value.ref b] meth c G 11 601024 7293034 7 RL code) (hr : meth.sig.returnType = ret) (htr : l.stackTraces = false) (hX : va_X b L xs s s.heap ∧ b < s.heap.size ∧ ¬ GA G b) (hsz : ∀ q, GA G q → s.heap.size ≤ q) {K23 : Nat → Nat → Nat → Int32 → St → Nat → Nat → Prop} (hK23 : ∀ (a1 : Nat) (a2 : Nat) (a3 : Nat) (x4 : Int32) (σ : St) (k n : Nat), K23 a1 a2 a3 x4 σ k n → V p l e room_1 s m #[Value.ref b] below meth c (lw_Z below #[Value.ref b] s) G 0 σ0 601024 7293034 7 σ k n [(some a1, 12), (some a2, 13), (some a3, 23)] 23 [(0, va_rf (some b)), (1, va_rf (some a1)), (2, va_rf (some a2)), (3, va_rf (some a3)), (4, .int x4)] []) : ∀ (a1 : Nat) (a2 : Nat) (a3 : Nat) (x4 : Int32) (σ : St) (k n : Nat), w_L_law_2293 L xs K23 a1 a2 a3 x4 σ k n → V p l e room_1 s m #[Value.ref b] below meth c (lw_Z below #[Value.ref b] s) G 0 σ0 601024 7293034 7 σ k n [(some a1, 12), (some a2, 13), (some a3, 23)] 2293 [(0, va_rf (some b)), (1, va_rf (some a1)), (2, va_rf (some a2)), (3, va_rf (some a3)), (4, .int x4)] [] := by
  intro a1 a2 a3 x4 σ k n hw
  unfold w_L_law_2293 at hw
  refine v_aload_n X 1 rfl (gD D_L_law_66 12 rfl) rfl ?_
  refine v_aload_n X 0 rfl (gD D_L_law_66 13 rfl) rfl ?_
  refine v_iload X 4 rfl (gD D_L_law_66 14 rfl) ?_
  refine v_iconst X 1 (gD D_L_law_66 15 rfl) (by decide) ?_
  refine v_iadd X (gD D_L_law_66 16 rfl) ?_
  obtain ⟨h709, hw⟩ := hw
  refine v_sld X hX h709 (gD D_L_law_66 17 rfl) ?_
  refine v_aload_n X 3 rfl (gD D_L_law_66 18 rfl) rfl ?_
  obtain ⟨k712, n713, k714, n715, h716, h717, hw⟩ := hw
  refine v_callW X (As := [va_rf (some a1), .int (xs (x4 + 1).toNatClampNeg), va_rf (some a3)]) (rest := []) (nA := 3) k712 n713 k714 n715 (fun ht => c_L_send htr (ht.sub [0, 2] rfl) hw) (Or.inr rfl) lk_sRL_250 (by decide +kernel) rfl rfl (by decide) (by decide) (by decide) h716 h717 (gD D_L_law_66 19 rfl) (fun x710 s711 hq hx hf => ?_)
  replace hw := hq hx hf
  clear hq hx hf
  refine v_istore X [(5, .int x710), (0, va_rf (some b)), (1, va_rf (some a1)), (2, va_rf (some a2)), (3, va_rf (some a3)), (4, .int x4)] (gD D_L_law_66 20 rfl) (by decide) rfl ?_
  refine v_aload_n X 3 rfl (gD D_L_law_67 0 rfl) rfl ?_
  refine v_aload_n X 1 rfl (gD D_L_law_67 1 rfl) rfl ?_
  refine v_iload X 5 rfl (gD D_L_law_67 2 rfl) ?_
  refine v_iconst X 1 (gD D_L_law_67 3 rfl) (by decide) ?_
  refine v_iadd X (gD D_L_law_67 4 rfl) ?_
  obtain ⟨h718, hw⟩ := hw
  refine v_sld X hX h718 (gD D_L_law_67 5 rfl) ?_
  refine v_callVi X (As := [.int (xs (x4 + 1).toNatClampNeg)]) (rest := []) (nA := 1) 0 0 k714 n715 (fun ht => c_X12_send htr (ht.sub [1] rfl) hw) (Or.inr rfl) 1 (κ := 13) rfl (by decide) (rfl : gCl[12]? = some (RX12, TX12, 65)) lk_vRL_252 (by decide +kernel) rfl rfl (by decide) (by decide) (by decide) rfl rfl (gD D_L_law_67 6 rfl) (fun x719 s720 hq hx hf => ?_)
  replace hw := hq hx hf
  clear hq hx hf
  refine v_istore X [(6, .int x719), (5, .int x710), (0, va_rf (some b)), (1, va_rf (some a1)), (2, va_rf (some a2)), (3, va_rf (some a3)), (4, .int x4)] (gD D_L_law_67 7 rfl) (by decide) rfl ?_
  refine v_aload_n X 4 rfl (gD D_L_law_67 8 rfl) rfl ?_
  refine v_callVi X (As := []) (rest := []) (nA := 0) 0 0 k714 n715 (fun ht => c_X12_thrown htr (ht.sub [1] rfl) hw) (Or.inr rfl) 1 (κ := 13) rfl (by decide) (rfl : gCl[12]? = some (RX12, TX12, 65)) lk_vRL_139 (by decide +kernel) rfl rfl (by decide) (by decide) (by decide) rfl rfl (gD D_L_law_67 9 rfl) (fun x721 s722 hq hx hf => ?_)
  replace hw := hq hx hf
  clear hq hx hf
  refine v_iload X 1 rfl (gD D_L_law_67 10 rfl) ?_
  refine v_icmp_eq X 2329 (gD D_L_law_67 11 rfl) (by decide) (fun c723 => ?_) (fun c723 => ?_)
  · replace hw := hw.1 c723
    refine v_iload X 1 rfl (gD D_L_law_67 14 rfl) ?_
    refine v_if_ne X 2346 (gD D_L_law_67 15 rfl) (by decide) (fun c724 => ?_) (fun c724 => ?_)
    · replace hw := hw.1 c724
      refine v_goto X 2730 (gD D_L_law_68 4 rfl) (by decide) ?_
      refine v_iinc X (x4 + 7) 6 rfl [(4, .int (x4 + 7)), (6, .int x719), (5, .int x710), (0, va_rf (some b)), (1, va_rf (some a1)), (2, va_rf (some a2)), (3, va_rf (some a3))] (gD D_L_law_80 3 rfl) rfl (by decide) rfl ?_
      refine v_goto X 23 (gD D_L_law_80 4 rfl) (by decide) ?_
      exact v_sub [0, 1, 2] [3, 4, 5, 6, 0] rfl rfl (hK23 a1 a2 a3 (x4 + 7) s722 k714 n715 hw)
    · replace hw := hw.2 c724
      refine v_aload_n X 5 rfl (gD D_L_law_67 16 rfl) rfl ?_
      refine v_iconst X 0 (gD D_L_law_67 17 rfl) (by decide) ?_
      obtain ⟨h725, hw⟩ := hw
      refine v_lald X 2 rfl h725 (gD D_L_law_67 18 rfl) ?_
      refine v_iload X 0 rfl (gD D_L_law_67 19 rfl) ?_
      refine v_i2l X (gD D_L_law_67 20 rfl) ?_
      refine v_lcmp X (gD D_L_law_68 0 rfl) ?_
      refine v_if_eq X 2346 (gD D_L_law_68 1 rfl) (by decide) (fun c726 => ?_) (fun c726 => ?_)
      · replace hw := hw.1 c726
        refine v_goto X 2730 (gD D_L_law_68 4 rfl) (by decide) ?_
        refine v_iinc X (x4 + 7) 6 rfl [(4, .int (x4 + 7)), (6, .int x719), (5, .int x710), (0, va_rf (some b)), (1, va_rf (some a1)), (2, va_rf (some a2)), (3, va_rf (some a3))] (gD D_L_law_80 3 rfl) rfl (by decide) rfl ?_
        refine v_goto X 23 (gD D_L_law_80 4 rfl) (by decide) ?_
        exact v_sub [0, 1, 2] [3, 4, 5, 6, 0] rfl rfl (hK23 a1 a2 a3 (x4 + 7) s722 k714 n715 hw)
      · replace hw := hw.2 c726
        refine v_iconst X 0 (gD D_L_law_68 2 rfl) (by decide) ?_
        exact hw.elim
  · replace hw := hw.2 c723
    refine v_iconst X 0 (gD D_L_law_67 12 rfl) (by decide) ?_
    exact hw.elim
set_option maxRecDepth 100000 in
set_option maxHeartbeats 4000000 in
theorem t_L_law_2349 {p : Program} {l : Launch} {e : Env} {s : State} {m : MethodId} {below : List Frame} {meth : Method} {c : Code} {G : GX} {σ0 : St} {b L : Nat} {xs : Nat → Int32} (X : VC p l room_1 s m #[Value.ref b] meth c G 11 601024 7293034 7 RL code) (hr : meth.sig.returnType = ret) (htr : l.stackTraces = false) (hX : va_X b L xs s s.heap ∧ b < s.heap.size ∧ ¬ GA G b) (hsz : ∀ q, GA G q → s.heap.size ≤ q) {K23 : Nat → Nat → Nat → Int32 → St → Nat → Nat → Prop} (hK23 : ∀ (a1 : Nat) (a2 : Nat) (a3 : Nat) (x4 : Int32) (σ : St) (k n : Nat), K23 a1 a2 a3 x4 σ k n → V p l e room_1 s m #[Value.ref b] below meth c (lw_Z below #[Value.ref b] s) G 0 σ0 601024 7293034 7 σ k n [(some a1, 12), (some a2, 13), (some a3, 23)] 23 [(0, va_rf (some b)), (1, va_rf (some a1)), (2, va_rf (some a2)), (3, va_rf (some a3)), (4, .int x4)] []) : ∀ (a1 : Nat) (a2 : Nat) (a3 : Nat) (x4 : Int32) (σ : St) (k n : Nat), w_L_law_2349 L xs K23 a1 a2 a3 x4 σ k n → V p l e room_1 s m #[Value.ref b] below meth c (lw_Z below #[Value.ref b] s) G 0 σ0 601024 7293034 7 σ k n [(some a1, 12), (some a2, 13), (some a3, 23)] 2349 [(0, va_rf (some b)), (1, va_rf (some a1)), (2, va_rf (some a2)), (3, va_rf (some a3)), (4, .int x4)] [] := by
  intro a1 a2 a3 x4 σ k n hw
  unfold w_L_law_2349 at hw
  refine v_aload_n X 1 rfl (gD D_L_law_68 5 rfl) rfl ?_
  refine v_aload_n X 0 rfl (gD D_L_law_68 6 rfl) rfl ?_
  refine v_iload X 4 rfl (gD D_L_law_68 7 rfl) ?_
  refine v_iconst X 1 (gD D_L_law_68 8 rfl) (by decide) ?_
  refine v_iadd X (gD D_L_law_68 9 rfl) ?_
  obtain ⟨h727, hw⟩ := hw
  refine v_sld X hX h727 (gD D_L_law_68 10 rfl) ?_
  refine v_aload_n X 0 rfl (gD D_L_law_68 11 rfl) rfl ?_
  refine v_iload X 4 rfl (gD D_L_law_68 12 rfl) ?_
  refine v_iconst X 2 (gD D_L_law_68 13 rfl) (by decide) ?_
  refine v_iadd X (gD D_L_law_68 14 rfl) ?_
  obtain ⟨h728, hw⟩ := hw
  refine v_sld X hX h728 (gD D_L_law_68 15 rfl) ?_
  refine v_aload_n X 3 rfl (gD D_L_law_68 16 rfl) rfl ?_
  obtain ⟨k731, n732, k733, n734, h735, h736, hw⟩ := hw
  refine v_callW X (As := [va_rf (some a1), .int (xs (x4 + 1).toNatClampNeg), .int (xs (x4 + 2).toNatClampNeg), va_rf (some a3)]) (rest := []) (nA := 4) k731 n732 k733 n734 (fun ht => c_L_sent htr (ht.sub [0, 2] rfl) hw) (Or.inr rfl) lk_sRL_253 (by decide +kernel) rfl rfl (by decide) (by decide) (by decide) h735 h736 (gD D_L_law_68 17 rfl) (fun x729 s730 hq hx hf => ?_)
  replace hw := hq hx hf
  clear hq hx hf
  refine v_istore X [(5, .int x729), (0, va_rf (some b)), (1, va_rf (some a1)), (2, va_rf (some a2)), (3, va_rf (some a3)), (4, .int x4)] (gD D_L_law_68 18 rfl) (by decide) rfl ?_
  refine v_aload_n X 3 rfl (gD D_L_law_68 19 rfl) rfl ?_
  refine v_aload_n X 1 rfl (gD D_L_law_68 20 rfl) rfl ?_
  refine v_iload X 5 rfl (gD D_L_law_69 0 rfl) ?_
  refine v_iconst X 1 (gD D_L_law_69 1 rfl) (by decide) ?_
  refine v_iadd X (gD D_L_law_69 2 rfl) ?_
  obtain ⟨h737, hw⟩ := hw
  refine v_sld X hX h737 (gD D_L_law_69 3 rfl) ?_
  refine v_aload_n X 1 rfl (gD D_L_law_69 4 rfl) rfl ?_
  refine v_iload X 5 rfl (gD D_L_law_69 5 rfl) ?_
  refine v_iconst X 2 (gD D_L_law_69 6 rfl) (by decide) ?_
  refine v_iadd X (gD D_L_law_69 7 rfl) ?_
  obtain ⟨h738, hw⟩ := hw
  refine v_sld X hX h738 (gD D_L_law_69 8 rfl) ?_
  refine v_callVi X (As := [.int (xs (x4 + 1).toNatClampNeg), .int (xs (x4 + 2).toNatClampNeg)]) (rest := []) (nA := 2) 0 0 k733 n734 (fun ht => c_X12_sent htr (ht.sub [1] rfl) hw) (Or.inr rfl) 1 (κ := 13) rfl (by decide) (rfl : gCl[12]? = some (RX12, TX12, 65)) lk_vRL_255 (by decide +kernel) rfl rfl (by decide) (by decide) (by decide) rfl rfl (gD D_L_law_69 9 rfl) (fun x739 s740 hq hx hf => ?_)
  replace hw := hq hx hf
  clear hq hx hf
  refine v_istore X [(6, .int x739), (5, .int x729), (0, va_rf (some b)), (1, va_rf (some a1)), (2, va_rf (some a2)), (3, va_rf (some a3)), (4, .int x4)] (gD D_L_law_69 10 rfl) (by decide) rfl ?_
  refine v_aload_n X 4 rfl (gD D_L_law_69 11 rfl) rfl ?_
  refine v_callVi X (As := []) (rest := []) (nA := 0) 0 0 k733 n734 (fun ht => c_X12_thrown htr (ht.sub [1] rfl) hw) (Or.inr rfl) 1 (κ := 13) rfl (by decide) (rfl : gCl[12]? = some (RX12, TX12, 65)) lk_vRL_139 (by decide +kernel) rfl rfl (by decide) (by decide) (by decide) rfl rfl (gD D_L_law_69 12 rfl) (fun x741 s742 hq hx hf => ?_)
  replace hw := hq hx hf
  clear hq hx hf
  refine v_iload X 1 rfl (gD D_L_law_69 13 rfl) ?_
  refine v_icmp_eq X 2397 (gD D_L_law_69 14 rfl) (by decide) (fun c743 => ?_) (fun c743 => ?_)
  · replace hw := hw.1 c743
    refine v_iload X 1 rfl (gD D_L_law_69 17 rfl) ?_
    refine v_if_ne X 2414 (gD D_L_law_69 18 rfl) (by decide) (fun c744 => ?_) (fun c744 => ?_)
    · replace hw := hw.1 c744
      refine v_goto X 2730 (gD D_L_law_70 7 rfl) (by decide) ?_
      refine v_iinc X (x4 + 7) 6 rfl [(4, .int (x4 + 7)), (6, .int x739), (5, .int x729), (0, va_rf (some b)), (1, va_rf (some a1)), (2, va_rf (some a2)), (3, va_rf (some a3))] (gD D_L_law_80 3 rfl) rfl (by decide) rfl ?_
      refine v_goto X 23 (gD D_L_law_80 4 rfl) (by decide) ?_
      exact v_sub [0, 1, 2] [3, 4, 5, 6, 0] rfl rfl (hK23 a1 a2 a3 (x4 + 7) s742 k733 n734 hw)
    · replace hw := hw.2 c744
      refine v_aload_n X 5 rfl (gD D_L_law_69 19 rfl) rfl ?_
      refine v_iconst X 0 (gD D_L_law_69 20 rfl) (by decide) ?_
      obtain ⟨h745, hw⟩ := hw
      refine v_lald X 2 rfl h745 (gD D_L_law_70 0 rfl) ?_
      refine v_iload X 0 rfl (gD D_L_law_70 1 rfl) ?_
      refine v_i2l X (gD D_L_law_70 2 rfl) ?_
      refine v_lcmp X (gD D_L_law_70 3 rfl) ?_
      refine v_if_eq X 2414 (gD D_L_law_70 4 rfl) (by decide) (fun c746 => ?_) (fun c746 => ?_)
      · replace hw := hw.1 c746
        refine v_goto X 2730 (gD D_L_law_70 7 rfl) (by decide) ?_
        refine v_iinc X (x4 + 7) 6 rfl [(4, .int (x4 + 7)), (6, .int x739), (5, .int x729), (0, va_rf (some b)), (1, va_rf (some a1)), (2, va_rf (some a2)), (3, va_rf (some a3))] (gD D_L_law_80 3 rfl) rfl (by decide) rfl ?_
        refine v_goto X 23 (gD D_L_law_80 4 rfl) (by decide) ?_
        exact v_sub [0, 1, 2] [3, 4, 5, 6, 0] rfl rfl (hK23 a1 a2 a3 (x4 + 7) s742 k733 n734 hw)
      · replace hw := hw.2 c746
        refine v_iconst X 0 (gD D_L_law_70 5 rfl) (by decide) ?_
        exact hw.elim
  · replace hw := hw.2 c743
    refine v_iconst X 0 (gD D_L_law_69 15 rfl) (by decide) ?_
    exact hw.elim
set_option maxRecDepth 100000 in
set_option maxHeartbeats 4000000 in
theorem t_L_law_2417 {p : Program} {l : Launch} {e : Env} {s : State} {m : MethodId} {below : List Frame} {meth : Method} {c : Code} {G : GX} {σ0 : St} {b L : Nat} {xs : Nat → Int32} (X : VC p l room_1 s m #[Value.ref b] meth c G 11 601024 7293034 7 RL code) (hr : meth.sig.returnType = ret) (htr : l.stackTraces = false) (hX : va_X b L xs s s.heap ∧ b < s.heap.size ∧ ¬ GA G b) (hsz : ∀ q, GA G q → s.heap.size ≤ q) {K23 : Nat → Nat → Nat → Int32 → St → Nat → Nat → Prop} (hK23 : ∀ (a1 : Nat) (a2 : Nat) (a3 : Nat) (x4 : Int32) (σ : St) (k n : Nat), K23 a1 a2 a3 x4 σ k n → V p l e room_1 s m #[Value.ref b] below meth c (lw_Z below #[Value.ref b] s) G 0 σ0 601024 7293034 7 σ k n [(some a1, 12), (some a2, 13), (some a3, 23)] 23 [(0, va_rf (some b)), (1, va_rf (some a1)), (2, va_rf (some a2)), (3, va_rf (some a3)), (4, .int x4)] []) : ∀ (a1 : Nat) (a2 : Nat) (a3 : Nat) (x4 : Int32) (σ : St) (k n : Nat), w_L_law_2417 L xs K23 a1 a2 a3 x4 σ k n → V p l e room_1 s m #[Value.ref b] below meth c (lw_Z below #[Value.ref b] s) G 0 σ0 601024 7293034 7 σ k n [(some a1, 12), (some a2, 13), (some a3, 23)] 2417 [(0, va_rf (some b)), (1, va_rf (some a1)), (2, va_rf (some a2)), (3, va_rf (some a3)), (4, .int x4)] [] := by
  intro a1 a2 a3 x4 σ k n hw
  unfold w_L_law_2417 at hw
  refine v_aload_n X 1 rfl (gD D_L_law_70 8 rfl) rfl ?_
  refine v_aload_n X 0 rfl (gD D_L_law_70 9 rfl) rfl ?_
  refine v_iload X 4 rfl (gD D_L_law_70 10 rfl) ?_
  refine v_iconst X 1 (gD D_L_law_70 11 rfl) (by decide) ?_
  refine v_iadd X (gD D_L_law_70 12 rfl) ?_
  obtain ⟨h747, hw⟩ := hw
  refine v_sld X hX h747 (gD D_L_law_70 13 rfl) ?_
  refine v_aload_n X 0 rfl (gD D_L_law_70 14 rfl) rfl ?_
  refine v_iload X 4 rfl (gD D_L_law_70 15 rfl) ?_
  refine v_iconst X 2 (gD D_L_law_70 16 rfl) (by decide) ?_
  refine v_iadd X (gD D_L_law_70 17 rfl) ?_
  obtain ⟨h748, hw⟩ := hw
  refine v_sld X hX h748 (gD D_L_law_70 18 rfl) ?_
  refine v_aload_n X 3 rfl (gD D_L_law_70 19 rfl) rfl ?_
  obtain ⟨k751, n752, k753, n754, h755, h756, hw⟩ := hw
  refine v_callW X (As := [va_rf (some a1), .int (xs (x4 + 1).toNatClampNeg), .int (xs (x4 + 2).toNatClampNeg), va_rf (some a3)]) (rest := []) (nA := 4) k751 n752 k753 n754 (fun ht => c_L_received htr (ht.sub [0, 2] rfl) hw) (Or.inr rfl) lk_sRL_256 (by decide +kernel) rfl rfl (by decide) (by decide) (by decide) h755 h756 (gD D_L_law_70 20 rfl) (fun x749 s750 hq hx hf => ?_)
  replace hw := hq hx hf
  clear hq hx hf
  refine v_istore X [(5, .int x749), (0, va_rf (some b)), (1, va_rf (some a1)), (2, va_rf (some a2)), (3, va_rf (some a3)), (4, .int x4)] (gD D_L_law_71 0 rfl) (by decide) rfl ?_
  refine v_aload_n X 3 rfl (gD D_L_law_71 1 rfl) rfl ?_
  refine v_aload_n X 1 rfl (gD D_L_law_71 2 rfl) rfl ?_
  refine v_iload X 5 rfl (gD D_L_law_71 3 rfl) ?_
  refine v_iconst X 1 (gD D_L_law_71 4 rfl) (by decide) ?_
  refine v_iadd X (gD D_L_law_71 5 rfl) ?_
  obtain ⟨h757, hw⟩ := hw
  refine v_sld X hX h757 (gD D_L_law_71 6 rfl) ?_
  refine v_aload_n X 1 rfl (gD D_L_law_71 7 rfl) rfl ?_
  refine v_iload X 5 rfl (gD D_L_law_71 8 rfl) ?_
  refine v_iconst X 2 (gD D_L_law_71 9 rfl) (by decide) ?_
  refine v_iadd X (gD D_L_law_71 10 rfl) ?_
  obtain ⟨h758, hw⟩ := hw
  refine v_sld X hX h758 (gD D_L_law_71 11 rfl) ?_
  refine v_callVi X (As := [.int (xs (x4 + 1).toNatClampNeg), .int (xs (x4 + 2).toNatClampNeg)]) (rest := []) (nA := 2) 0 0 k753 n754 (fun ht => c_X12_received htr (ht.sub [1] rfl) hw) (Or.inr rfl) 1 (κ := 13) rfl (by decide) (rfl : gCl[12]? = some (RX12, TX12, 65)) lk_vRL_258 (by decide +kernel) rfl rfl (by decide) (by decide) (by decide) rfl rfl (gD D_L_law_71 12 rfl) (fun x759 s760 hq hx hf => ?_)
  replace hw := hq hx hf
  clear hq hx hf
  refine v_istore X [(6, .int x759), (5, .int x749), (0, va_rf (some b)), (1, va_rf (some a1)), (2, va_rf (some a2)), (3, va_rf (some a3)), (4, .int x4)] (gD D_L_law_71 13 rfl) (by decide) rfl ?_
  refine v_aload_n X 4 rfl (gD D_L_law_71 14 rfl) rfl ?_
  refine v_callVi X (As := []) (rest := []) (nA := 0) 0 0 k753 n754 (fun ht => c_X12_thrown htr (ht.sub [1] rfl) hw) (Or.inr rfl) 1 (κ := 13) rfl (by decide) (rfl : gCl[12]? = some (RX12, TX12, 65)) lk_vRL_139 (by decide +kernel) rfl rfl (by decide) (by decide) (by decide) rfl rfl (gD D_L_law_71 15 rfl) (fun x761 s762 hq hx hf => ?_)
  replace hw := hq hx hf
  clear hq hx hf
  refine v_iload X 1 rfl (gD D_L_law_71 16 rfl) ?_
  refine v_icmp_eq X 2465 (gD D_L_law_71 17 rfl) (by decide) (fun c763 => ?_) (fun c763 => ?_)
  · replace hw := hw.1 c763
    refine v_iload X 1 rfl (gD D_L_law_71 20 rfl) ?_
    refine v_if_ne X 2482 (gD D_L_law_72 0 rfl) (by decide) (fun c764 => ?_) (fun c764 => ?_)
    · replace hw := hw.1 c764
      refine v_goto X 2730 (gD D_L_law_72 10 rfl) (by decide) ?_
      refine v_iinc X (x4 + 7) 6 rfl [(4, .int (x4 + 7)), (6, .int x759), (5, .int x749), (0, va_rf (some b)), (1, va_rf (some a1)), (2, va_rf (some a2)), (3, va_rf (some a3))] (gD D_L_law_80 3 rfl) rfl (by decide) rfl ?_
      refine v_goto X 23 (gD D_L_law_80 4 rfl) (by decide) ?_
      exact v_sub [0, 1, 2] [3, 4, 5, 6, 0] rfl rfl (hK23 a1 a2 a3 (x4 + 7) s762 k753 n754 hw)
    · replace hw := hw.2 c764
      refine v_aload_n X 5 rfl (gD D_L_law_72 1 rfl) rfl ?_
      refine v_iconst X 0 (gD D_L_law_72 2 rfl) (by decide) ?_
      obtain ⟨h765, hw⟩ := hw
      refine v_lald X 2 rfl h765 (gD D_L_law_72 3 rfl) ?_
      refine v_iload X 0 rfl (gD D_L_law_72 4 rfl) ?_
      refine v_i2l X (gD D_L_law_72 5 rfl) ?_
      refine v_lcmp X (gD D_L_law_72 6 rfl) ?_
      refine v_if_eq X 2482 (gD D_L_law_72 7 rfl) (by decide) (fun c766 => ?_) (fun c766 => ?_)
      · replace hw := hw.1 c766
        refine v_goto X 2730 (gD D_L_law_72 10 rfl) (by decide) ?_
        refine v_iinc X (x4 + 7) 6 rfl [(4, .int (x4 + 7)), (6, .int x759), (5, .int x749), (0, va_rf (some b)), (1, va_rf (some a1)), (2, va_rf (some a2)), (3, va_rf (some a3))] (gD D_L_law_80 3 rfl) rfl (by decide) rfl ?_
        refine v_goto X 23 (gD D_L_law_80 4 rfl) (by decide) ?_
        exact v_sub [0, 1, 2] [3, 4, 5, 6, 0] rfl rfl (hK23 a1 a2 a3 (x4 + 7) s762 k753 n754 hw)
      · replace hw := hw.2 c766
        refine v_iconst X 0 (gD D_L_law_72 8 rfl) (by decide) ?_
        exact hw.elim
  · replace hw := hw.2 c763
    refine v_iconst X 0 (gD D_L_law_71 18 rfl) (by decide) ?_
    exact hw.elim
set_option maxRecDepth 100000 in
set_option maxHeartbeats 4000000 in
theorem t_L_law_2485 {p : Program} {l : Launch} {e : Env} {s : State} {m : MethodId} {below : List Frame} {meth : Method} {c : Code} {G : GX} {σ0 : St} {b L : Nat} {xs : Nat → Int32} (X : VC p l room_1 s m #[Value.ref b] meth c G 11 601024 7293034 7 RL code) (hr : meth.sig.returnType = ret) (htr : l.stackTraces = false) (hX : va_X b L xs s s.heap ∧ b < s.heap.size ∧ ¬ GA G b) (hsz : ∀ q, GA G q → s.heap.size ≤ q) {K23 : Nat → Nat → Nat → Int32 → St → Nat → Nat → Prop} (hK23 : ∀ (a1 : Nat) (a2 : Nat) (a3 : Nat) (x4 : Int32) (σ : St) (k n : Nat), K23 a1 a2 a3 x4 σ k n → V p l e room_1 s m #[Value.ref b] below meth c (lw_Z below #[Value.ref b] s) G 0 σ0 601024 7293034 7 σ k n [(some a1, 12), (some a2, 13), (some a3, 23)] 23 [(0, va_rf (some b)), (1, va_rf (some a1)), (2, va_rf (some a2)), (3, va_rf (some a3)), (4, .int x4)] []) : ∀ (a1 : Nat) (a2 : Nat) (a3 : Nat) (x4 : Int32) (σ : St) (k n : Nat), w_L_law_2485 L xs K23 a1 a2 a3 x4 σ k n → V p l e room_1 s m #[Value.ref b] below meth c (lw_Z below #[Value.ref b] s) G 0 σ0 601024 7293034 7 σ k n [(some a1, 12), (some a2, 13), (some a3, 23)] 2485 [(0, va_rf (some b)), (1, va_rf (some a1)), (2, va_rf (some a2)), (3, va_rf (some a3)), (4, .int x4)] [] := by
  intro a1 a2 a3 x4 σ k n hw
  unfold w_L_law_2485 at hw
  refine v_aload_n X 1 rfl (gD D_L_law_72 11 rfl) rfl ?_
  refine v_aload_n X 0 rfl (gD D_L_law_72 12 rfl) rfl ?_
  refine v_iload X 4 rfl (gD D_L_law_72 13 rfl) ?_
  refine v_iconst X 1 (gD D_L_law_72 14 rfl) (by decide) ?_
  refine v_iadd X (gD D_L_law_72 15 rfl) ?_
  obtain ⟨h767, hw⟩ := hw
  refine v_sld X hX h767 (gD D_L_law_72 16 rfl) ?_
  refine v_aload_n X 0 rfl (gD D_L_law_72 17 rfl) rfl ?_
  refine v_iload X 4 rfl (gD D_L_law_72 18 rfl) ?_
  refine v_iconst X 2 (gD D_L_law_72 19 rfl) (by decide) ?_
  refine v_iadd X (gD D_L_law_72 20 rfl) ?_
  obtain ⟨h768, hw⟩ := hw
  refine v_sld X hX h768 (gD D_L_law_73 0 rfl) ?_
  refine v_aload_n X 0 rfl (gD D_L_law_73 1 rfl) rfl ?_
  refine v_iload X 4 rfl (gD D_L_law_73 2 rfl) ?_
  refine v_iconst X 3 (gD D_L_law_73 3 rfl) (by decide) ?_
  refine v_iadd X (gD D_L_law_73 4 rfl) ?_
  obtain ⟨h769, hw⟩ := hw
  refine v_sld X hX h769 (gD D_L_law_73 5 rfl) ?_
  refine v_aload_n X 3 rfl (gD D_L_law_73 6 rfl) rfl ?_
  obtain ⟨k772, n773, k774, n775, h776, h777, hw⟩ := hw
  refine v_callW X (As := [va_rf (some a1), .int (xs (x4 + 1).toNatClampNeg), .int (xs (x4 + 2).toNatClampNeg), .int (xs (x4 + 3).toNatClampNeg), va_rf (some a3)]) (rest := []) (nA := 5) k772 n773 k774 n775 (fun ht => c_L_comeBack htr (ht.sub [0, 2] rfl) hw) (Or.inr rfl) lk_sRL_259 (by decide +kernel) rfl rfl (by decide) (by decide) (by decide) h776 h777 (gD D_L_law_73 7 rfl) (fun x770 s771 hq hx hf => ?_)
  replace hw := hq hx hf
  clear hq hx hf
  refine v_istore X [(5, .int x770), (0, va_rf (some b)), (1, va_rf (some a1)), (2, va_rf (some a2)), (3, va_rf (some a3)), (4, .int x4)] (gD D_L_law_73 8 rfl) (by decide) rfl ?_
  refine v_aload_n X 3 rfl (gD D_L_law_73 9 rfl) rfl ?_
  refine v_aload_n X 1 rfl (gD D_L_law_73 10 rfl) rfl ?_
  refine v_iload X 5 rfl (gD D_L_law_73 11 rfl) ?_
  refine v_iconst X 1 (gD D_L_law_73 12 rfl) (by decide) ?_
  refine v_iadd X (gD D_L_law_73 13 rfl) ?_
  obtain ⟨h778, hw⟩ := hw
  refine v_sld X hX h778 (gD D_L_law_73 14 rfl) ?_
  refine v_aload_n X 1 rfl (gD D_L_law_73 15 rfl) rfl ?_
  refine v_iload X 5 rfl (gD D_L_law_73 16 rfl) ?_
  refine v_iconst X 2 (gD D_L_law_73 17 rfl) (by decide) ?_
  refine v_iadd X (gD D_L_law_73 18 rfl) ?_
  obtain ⟨h779, hw⟩ := hw
  refine v_sld X hX h779 (gD D_L_law_73 19 rfl) ?_
  refine v_aload_n X 1 rfl (gD D_L_law_73 20 rfl) rfl ?_
  refine v_iload X 5 rfl (gD D_L_law_74 0 rfl) ?_
  refine v_iconst X 3 (gD D_L_law_74 1 rfl) (by decide) ?_
  refine v_iadd X (gD D_L_law_74 2 rfl) ?_
  obtain ⟨h780, hw⟩ := hw
  refine v_sld X hX h780 (gD D_L_law_74 3 rfl) ?_
  refine v_callVi X (As := [.int (xs (x4 + 1).toNatClampNeg), .int (xs (x4 + 2).toNatClampNeg), .int (xs (x4 + 3).toNatClampNeg)]) (rest := []) (nA := 3) 0 0 k774 n775 (fun ht => c_X12_comeBack htr (ht.sub [1] rfl) hw) (Or.inr rfl) 1 (κ := 13) rfl (by decide) (rfl : gCl[12]? = some (RX12, TX12, 65)) lk_vRL_261 (by decide +kernel) rfl rfl (by decide) (by decide) (by decide) rfl rfl (gD D_L_law_74 4 rfl) (fun x781 s782 hq hx hf => ?_)
  replace hw := hq hx hf
  clear hq hx hf
  refine v_istore X [(6, .int x781), (5, .int x770), (0, va_rf (some b)), (1, va_rf (some a1)), (2, va_rf (some a2)), (3, va_rf (some a3)), (4, .int x4)] (gD D_L_law_74 5 rfl) (by decide) rfl ?_
  refine v_aload_n X 4 rfl (gD D_L_law_74 6 rfl) rfl ?_
  refine v_callVi X (As := []) (rest := []) (nA := 0) 0 0 k774 n775 (fun ht => c_X12_thrown htr (ht.sub [1] rfl) hw) (Or.inr rfl) 1 (κ := 13) rfl (by decide) (rfl : gCl[12]? = some (RX12, TX12, 65)) lk_vRL_139 (by decide +kernel) rfl rfl (by decide) (by decide) (by decide) rfl rfl (gD D_L_law_74 7 rfl) (fun x783 s784 hq hx hf => ?_)
  replace hw := hq hx hf
  clear hq hx hf
  refine v_iload X 1 rfl (gD D_L_law_74 8 rfl) ?_
  refine v_icmp_eq X 2545 (gD D_L_law_74 9 rfl) (by decide) (fun c785 => ?_) (fun c785 => ?_)
  · replace hw := hw.1 c785
    refine v_iload X 1 rfl (gD D_L_law_74 12 rfl) ?_
    refine v_if_ne X 2562 (gD D_L_law_74 13 rfl) (by decide) (fun c786 => ?_) (fun c786 => ?_)
    · replace hw := hw.1 c786
      refine v_goto X 2730 (gD D_L_law_75 2 rfl) (by decide) ?_
      refine v_iinc X (x4 + 7) 6 rfl [(4, .int (x4 + 7)), (6, .int x781), (5, .int x770), (0, va_rf (some b)), (1, va_rf (some a1)), (2, va_rf (some a2)), (3, va_rf (some a3))] (gD D_L_law_80 3 rfl) rfl (by decide) rfl ?_
      refine v_goto X 23 (gD D_L_law_80 4 rfl) (by decide) ?_
      exact v_sub [0, 1, 2] [3, 4, 5, 6, 0] rfl rfl (hK23 a1 a2 a3 (x4 + 7) s784 k774 n775 hw)
    · replace hw := hw.2 c786
      refine v_aload_n X 5 rfl (gD D_L_law_74 14 rfl) rfl ?_
      refine v_iconst X 0 (gD D_L_law_74 15 rfl) (by decide) ?_
      obtain ⟨h787, hw⟩ := hw
      refine v_lald X 2 rfl h787 (gD D_L_law_74 16 rfl) ?_
      refine v_iload X 0 rfl (gD D_L_law_74 17 rfl) ?_
      refine v_i2l X (gD D_L_law_74 18 rfl) ?_
      refine v_lcmp X (gD D_L_law_74 19 rfl) ?_
      refine v_if_eq X 2562 (gD D_L_law_74 20 rfl) (by decide) (fun c788 => ?_) (fun c788 => ?_)
      · replace hw := hw.1 c788
        refine v_goto X 2730 (gD D_L_law_75 2 rfl) (by decide) ?_
        refine v_iinc X (x4 + 7) 6 rfl [(4, .int (x4 + 7)), (6, .int x781), (5, .int x770), (0, va_rf (some b)), (1, va_rf (some a1)), (2, va_rf (some a2)), (3, va_rf (some a3))] (gD D_L_law_80 3 rfl) rfl (by decide) rfl ?_
        refine v_goto X 23 (gD D_L_law_80 4 rfl) (by decide) ?_
        exact v_sub [0, 1, 2] [3, 4, 5, 6, 0] rfl rfl (hK23 a1 a2 a3 (x4 + 7) s784 k774 n775 hw)
      · replace hw := hw.2 c788
        refine v_iconst X 0 (gD D_L_law_75 0 rfl) (by decide) ?_
        exact hw.elim
  · replace hw := hw.2 c785
    refine v_iconst X 0 (gD D_L_law_74 10 rfl) (by decide) ?_
    exact hw.elim
set_option maxRecDepth 100000 in
set_option maxHeartbeats 4000000 in
theorem t_L_law_2625 {p : Program} {l : Launch} {e : Env} {s : State} {m : MethodId} {below : List Frame} {meth : Method} {c : Code} {G : GX} {σ0 : St} {b L : Nat} {xs : Nat → Int32} (X : VC p l room_1 s m #[Value.ref b] meth c G 11 601024 7293034 7 RL code) (hr : meth.sig.returnType = ret) (htr : l.stackTraces = false) (hX : va_X b L xs s s.heap ∧ b < s.heap.size ∧ ¬ GA G b) (hsz : ∀ q, GA G q → s.heap.size ≤ q) {K23 : Nat → Nat → Nat → Int32 → St → Nat → Nat → Prop} (hK23 : ∀ (a1 : Nat) (a2 : Nat) (a3 : Nat) (x4 : Int32) (σ : St) (k n : Nat), K23 a1 a2 a3 x4 σ k n → V p l e room_1 s m #[Value.ref b] below meth c (lw_Z below #[Value.ref b] s) G 0 σ0 601024 7293034 7 σ k n [(some a1, 12), (some a2, 13), (some a3, 23)] 23 [(0, va_rf (some b)), (1, va_rf (some a1)), (2, va_rf (some a2)), (3, va_rf (some a3)), (4, .int x4)] []) : ∀ (a1 : Nat) (a2 : Nat) (a3 : Nat) (x4 : Int32) (x5 : Int32) (as0 : Nat) (xs1 : Int32) (xs2 : Int32) (xs3 : Int32) (σ : St) (k n : Nat), w_L_law_2625 L xs K23 a1 a2 a3 x4 x5 as0 xs1 xs2 xs3 σ k n → V p l e room_1 s m #[Value.ref b] below meth c (lw_Z below #[Value.ref b] s) G 0 σ0 601024 7293034 7 σ k n [(some a1, 12), (some a2, 13), (some a3, 23), (some as0, 13)] 2625 [(0, va_rf (some b)), (1, va_rf (some a1)), (2, va_rf (some a2)), (3, va_rf (some a3)), (4, .int x4), (5, .int x5)] [.int xs3, .int xs2, .int xs1, va_rf (some as0)] := by
  intro a1 a2 a3 x4 x5 as0 xs1 xs2 xs3 σ k n hw
  unfold w_L_law_2625 at hw
  refine v_callVi X (As := [.int xs1, .int xs2, .int xs3]) (rest := []) (nA := 3) 0 0 k n (fun ht => c_X12_judge htr (ht.sub [3] rfl) hw) (Or.inr rfl) 3 (κ := 13) rfl (by decide) (rfl : gCl[12]? = some (RX12, TX12, 65)) lk_vRL_264 (by decide +kernel) rfl rfl (by decide) (by decide) (by decide) rfl rfl (gD D_L_law_77 4 rfl) (fun x805 s806 hq hx hf => ?_)
  replace hw := hq hx hf
  clear hq hx hf
  refine v_istore X [(6, .int x805), (0, va_rf (some b)), (1, va_rf (some a1)), (2, va_rf (some a2)), (3, va_rf (some a3)), (4, .int x4), (5, .int x5)] (gD D_L_law_77 5 rfl) (by decide) rfl ?_
  refine v_aload_n X 3 rfl (gD D_L_law_77 6 rfl) rfl ?_
  refine v_callVi X (As := []) (rest := []) (nA := 0) 0 0 k n (fun ht => c_X12_thrown htr (ht.sub [1] rfl) hw) (Or.inr rfl) 1 (κ := 13) rfl (by decide) (rfl : gCl[12]? = some (RX12, TX12, 65)) lk_vRL_139 (by decide +kernel) rfl rfl (by decide) (by decide) (by decide) rfl rfl (gD D_L_law_77 7 rfl) (fun x807 s808 hq hx hf => ?_)
  replace hw := hq hx hf
  clear hq hx hf
  refine v_iload X 6 rfl (gD D_L_law_77 8 rfl) ?_
  refine v_icmp_eq X 2641 (gD D_L_law_77 9 rfl) (by decide) (fun c809 => ?_) (fun c809 => ?_)
  · replace hw := hw.1 c809
    refine v_iload X 6 rfl (gD D_L_law_77 12 rfl) ?_
    refine v_if_ne X 2658 (gD D_L_law_77 13 rfl) (by decide) (fun c810 => ?_) (fun c810 => ?_)
    · replace hw := hw.1 c810
      refine v_goto X 2730 (gD D_L_law_78 2 rfl) (by decide) ?_
      refine v_iinc X (x4 + 7) 5 rfl [(4, .int (x4 + 7)), (6, .int x805), (0, va_rf (some b)), (1, va_rf (some a1)), (2, va_rf (some a2)), (3, va_rf (some a3)), (5, .int x5)] (gD D_L_law_80 3 rfl) rfl (by decide) rfl ?_
      refine v_goto X 23 (gD D_L_law_80 4 rfl) (by decide) ?_
      exact v_sub [0, 1, 2] [2, 3, 4, 5, 0] rfl rfl (hK23 a1 a2 a3 (x4 + 7) s808 k n hw)
    · replace hw := hw.2 c810
      refine v_aload_n X 4 rfl (gD D_L_law_77 14 rfl) rfl ?_
      refine v_iconst X 0 (gD D_L_law_77 15 rfl) (by decide) ?_
      obtain ⟨h811, hw⟩ := hw
      refine v_lald X 2 rfl h811 (gD D_L_law_77 16 rfl) ?_
      refine v_iload X 0 rfl (gD D_L_law_77 17 rfl) ?_
      refine v_i2l X (gD D_L_law_77 18 rfl) ?_
      refine v_lcmp X (gD D_L_law_77 19 rfl) ?_
      refine v_if_eq X 2658 (gD D_L_law_77 20 rfl) (by decide) (fun c812 => ?_) (fun c812 => ?_)
      · replace hw := hw.1 c812
        refine v_goto X 2730 (gD D_L_law_78 2 rfl) (by decide) ?_
        refine v_iinc X (x4 + 7) 5 rfl [(4, .int (x4 + 7)), (6, .int x805), (0, va_rf (some b)), (1, va_rf (some a1)), (2, va_rf (some a2)), (3, va_rf (some a3)), (5, .int x5)] (gD D_L_law_80 3 rfl) rfl (by decide) rfl ?_
        refine v_goto X 23 (gD D_L_law_80 4 rfl) (by decide) ?_
        exact v_sub [0, 1, 2] [2, 3, 4, 5, 0] rfl rfl (hK23 a1 a2 a3 (x4 + 7) s808 k n hw)
      · replace hw := hw.2 c812
        refine v_iconst X 0 (gD D_L_law_78 0 rfl) (by decide) ?_
        exact hw.elim
  · replace hw := hw.2 c809
    refine v_iconst X 0 (gD D_L_law_77 10 rfl) (by decide) ?_
    exact hw.elim
set_option maxRecDepth 100000 in
set_option maxHeartbeats 4000000 in
theorem t_L_law_2592 {p : Program} {l : Launch} {e : Env} {s : State} {m : MethodId} {below : List Frame} {meth : Method} {c : Code} {G : GX} {σ0 : St} {b L : Nat} {xs : Nat → Int32} (X : VC p l room_1 s m #[Value.ref b] meth c G 11 601024 7293034 7 RL code) (hr : meth.sig.returnType = ret) (htr : l.stackTraces = false) (hX : va_X b L xs s s.heap ∧ b < s.heap.size ∧ ¬ GA G b) (hsz : ∀ q, GA G q → s.heap.size ≤ q) {K23 : Nat → Nat → Nat → Int32 → St → Nat → Nat → Prop} (hK23 : ∀ (a1 : Nat) (a2 : Nat) (a3 : Nat) (x4 : Int32) (σ : St) (k n : Nat), K23 a1 a2 a3 x4 σ k n → V p l e room_1 s m #[Value.ref b] below meth c (lw_Z below #[Value.ref b] s) G 0 σ0 601024 7293034 7 σ k n [(some a1, 12), (some a2, 13), (some a3, 23)] 23 [(0, va_rf (some b)), (1, va_rf (some a1)), (2, va_rf (some a2)), (3, va_rf (some a3)), (4, .int x4)] []) : ∀ (a1 : Nat) (a2 : Nat) (a3 : Nat) (x4 : Int32) (as0 : Nat) (xs1 : Int32) (xs2 : Int32) (xs3 : Int32) (σ : St) (k n : Nat), w_L_law_2592 L xs K23 a1 a2 a3 x4 as0 xs1 xs2 xs3 σ k n → V p l e room_1 s m #[Value.ref b] below meth c (lw_Z below #[Value.ref b] s) G 0 σ0 601024 7293034 7 σ k n [(some a1, 12), (some a2, 13), (some a3, 23), (some as0, 12)] 2592 [(0, va_rf (some b)), (1, va_rf (some a1)), (2, va_rf (some a2)), (3, va_rf (some a3)), (4, .int x4)] [.int xs3, .int xs2, .int xs1, va_rf (some as0)] := by
  intro a1 a2 a3 x4 as0 xs1 xs2 xs3 σ k n hw
  unfold w_L_law_2592 at hw
  refine v_aload_n X 3 rfl (gD D_L_law_76 2 rfl) rfl ?_
  obtain ⟨k795, n796, k797, n798, h799, h800, hw⟩ := hw
  refine v_callW X (As := [va_rf (some as0), .int xs1, .int xs2, .int xs3, va_rf (some a3)]) (rest := []) (nA := 5) k795 n796 k797 n798 (fun ht => c_L_judge htr (ht.sub [3, 2] rfl) hw) (Or.inr rfl) lk_sRL_262 (by decide +kernel) rfl rfl (by decide) (by decide) (by decide) h799 h800 (gD D_L_law_76 3 rfl) (fun x793 s794 hq hx hf => ?_)
  replace hw := hq hx hf
  clear hq hx hf
  refine v_istore X [(5, .int x793), (0, va_rf (some b)), (1, va_rf (some a1)), (2, va_rf (some a2)), (3, va_rf (some a3)), (4, .int x4)] (gD D_L_law_76 4 rfl) (by decide) rfl ?_
  refine v_aload_n X 3 rfl (gD D_L_law_76 5 rfl) rfl ?_
  refine v_aload_n X 1 rfl (gD D_L_law_76 6 rfl) rfl ?_
  refine v_iload X 5 rfl (gD D_L_law_76 7 rfl) ?_
  refine v_iconst X 1 (gD D_L_law_76 8 rfl) (by decide) ?_
  refine v_iadd X (gD D_L_law_76 9 rfl) ?_
  obtain ⟨h801, hw⟩ := hw
  refine v_sld X hX h801 (gD D_L_law_76 10 rfl) ?_
  refine v_aload_n X 1 rfl (gD D_L_law_76 11 rfl) rfl ?_
  refine v_iload X 5 rfl (gD D_L_law_76 12 rfl) ?_
  refine v_iconst X 2 (gD D_L_law_76 13 rfl) (by decide) ?_
  refine v_iadd X (gD D_L_law_76 14 rfl) ?_
  obtain ⟨h802, hw⟩ := hw
  refine v_sld X hX h802 (gD D_L_law_76 15 rfl) ?_
  refine v_aload_n X 1 rfl (gD D_L_law_76 16 rfl) rfl ?_
  refine v_iload X 5 rfl (gD D_L_law_76 17 rfl) ?_
  refine v_iconst X 3 (gD D_L_law_76 18 rfl) (by decide) ?_
  refine v_iadd X (gD D_L_law_76 19 rfl) ?_
  obtain ⟨h803, hw⟩ := hw
  refine v_sld X hX h803 (gD D_L_law_76 20 rfl) ?_
  refine v_if_eq X 2624 (gD D_L_law_77 0 rfl) (by decide) (fun c804 => ?_) (fun c804 => ?_)
  · replace hw := hw.1 c804
    refine v_iconst X 0 (gD D_L_law_77 3 rfl) (by decide) ?_
    exact v_sub [0, 1, 2, 1] [1, 2, 3, 4, 5, 0] rfl rfl (t_L_law_2625 X hr htr hX hsz hK23 a1 a2 a3 x4 x793 a2 (xs (x4 + 1).toNatClampNeg) (xs (x4 + 2).toNatClampNeg) 0 s794 k797 n798 hw)
  · replace hw := hw.2 c804
    refine v_iconst X 1 (gD D_L_law_77 1 rfl) (by decide) ?_
    refine v_goto X 2625 (gD D_L_law_77 2 rfl) (by decide) ?_
    exact v_sub [0, 1, 2, 1] [1, 2, 3, 4, 5, 0] rfl rfl (t_L_law_2625 X hr htr hX hsz hK23 a1 a2 a3 x4 x793 a2 (xs (x4 + 1).toNatClampNeg) (xs (x4 + 2).toNatClampNeg) 1 s794 k797 n798 hw)
set_option maxRecDepth 100000 in
set_option maxHeartbeats 4000000 in
theorem t_L_law_2565 {p : Program} {l : Launch} {e : Env} {s : State} {m : MethodId} {below : List Frame} {meth : Method} {c : Code} {G : GX} {σ0 : St} {b L : Nat} {xs : Nat → Int32} (X : VC p l room_1 s m #[Value.ref b] meth c G 11 601024 7293034 7 RL code) (hr : meth.sig.returnType = ret) (htr : l.stackTraces = false) (hX : va_X b L xs s s.heap ∧ b < s.heap.size ∧ ¬ GA G b) (hsz : ∀ q, GA G q → s.heap.size ≤ q) {K23 : Nat → Nat → Nat → Int32 → St → Nat → Nat → Prop} (hK23 : ∀ (a1 : Nat) (a2 : Nat) (a3 : Nat) (x4 : Int32) (σ : St) (k n : Nat), K23 a1 a2 a3 x4 σ k n → V p l e room_1 s m #[Value.ref b] below meth c (lw_Z below #[Value.ref b] s) G 0 σ0 601024 7293034 7 σ k n [(some a1, 12), (some a2, 13), (some a3, 23)] 23 [(0, va_rf (some b)), (1, va_rf (some a1)), (2, va_rf (some a2)), (3, va_rf (some a3)), (4, .int x4)] []) : ∀ (a1 : Nat) (a2 : Nat) (a3 : Nat) (x4 : Int32) (σ : St) (k n : Nat), w_L_law_2565 L xs K23 a1 a2 a3 x4 σ k n → V p l e room_1 s m #[Value.ref b] below meth c (lw_Z below #[Value.ref b] s) G 0 σ0 601024 7293034 7 σ k n [(some a1, 12), (some a2, 13), (some a3, 23)] 2565 [(0, va_rf (some b)), (1, va_rf (some a1)), (2, va_rf (some a2)), (3, va_rf (some a3)), (4, .int x4)] [] := by
  intro a1 a2 a3 x4 σ k n hw
  unfold w_L_law_2565 at hw
  refine v_aload_n X 1 rfl (gD D_L_law_75 3 rfl) rfl ?_
  refine v_aload_n X 0 rfl (gD D_L_law_75 4 rfl) rfl ?_
  refine v_iload X 4 rfl (gD D_L_law_75 5 rfl) ?_
  refine v_iconst X 1 (gD D_L_law_75 6 rfl) (by decide) ?_
  refine v_iadd X (gD D_L_law_75 7 rfl) ?_
  obtain ⟨h789, hw⟩ := hw
  refine v_sld X hX h789 (gD D_L_law_75 8 rfl) ?_
  refine v_aload_n X 0 rfl (gD D_L_law_75 9 rfl) rfl ?_
  refine v_iload X 4 rfl (gD D_L_law_75 10 rfl) ?_
  refine v_iconst X 2 (gD D_L_law_75 11 rfl) (by decide) ?_
  refine v_iadd X (gD D_L_law_75 12 rfl) ?_
  obtain ⟨h790, hw⟩ := hw
  refine v_sld X hX h790 (gD D_L_law_75 13 rfl) ?_
  refine v_aload_n X 0 rfl (gD D_L_law_75 14 rfl) rfl ?_
  refine v_iload X 4 rfl (gD D_L_law_75 15 rfl) ?_
  refine v_iconst X 3 (gD D_L_law_75 16 rfl) (by decide) ?_
  refine v_iadd X (gD D_L_law_75 17 rfl) ?_
  obtain ⟨h791, hw⟩ := hw
  refine v_sld X hX h791 (gD D_L_law_75 18 rfl) ?_
  refine v_if_eq X 2591 (gD D_L_law_75 19 rfl) (by decide) (fun c792 => ?_) (fun c792 => ?_)
  · replace hw := hw.1 c792
    refine v_iconst X 0 (gD D_L_law_76 1 rfl) (by decide) ?_
    exact v_sub [0, 1, 2, 0] [0, 1, 2, 3, 4] rfl rfl (t_L_law_2592 X hr htr hX hsz hK23 a1 a2 a3 x4 a1 (xs (x4 + 1).toNatClampNeg) (xs (x4 + 2).toNatClampNeg) 0 σ k n hw)
  · replace hw := hw.2 c792
    refine v_iconst X 1 (gD D_L_law_75 20 rfl) (by decide) ?_
    refine v_goto X 2592 (gD D_L_law_76 0 rfl) (by decide) ?_
    exact v_sub [0, 1, 2, 0] [0, 1, 2, 3, 4] rfl rfl (t_L_law_2592 X hr htr hX hsz hK23 a1 a2 a3 x4 a1 (xs (x4 + 1).toNatClampNeg) (xs (x4 + 2).toNatClampNeg) 1 σ k n hw)
set_option maxRecDepth 100000 in
set_option maxHeartbeats 4000000 in
theorem t_L_law_2661 {p : Program} {l : Launch} {e : Env} {s : State} {m : MethodId} {below : List Frame} {meth : Method} {c : Code} {G : GX} {σ0 : St} {b L : Nat} {xs : Nat → Int32} (X : VC p l room_1 s m #[Value.ref b] meth c G 11 601024 7293034 7 RL code) (hr : meth.sig.returnType = ret) (htr : l.stackTraces = false) (hX : va_X b L xs s s.heap ∧ b < s.heap.size ∧ ¬ GA G b) (hsz : ∀ q, GA G q → s.heap.size ≤ q) {K23 : Nat → Nat → Nat → Int32 → St → Nat → Nat → Prop} (hK23 : ∀ (a1 : Nat) (a2 : Nat) (a3 : Nat) (x4 : Int32) (σ : St) (k n : Nat), K23 a1 a2 a3 x4 σ k n → V p l e room_1 s m #[Value.ref b] below meth c (lw_Z below #[Value.ref b] s) G 0 σ0 601024 7293034 7 σ k n [(some a1, 12), (some a2, 13), (some a3, 23)] 23 [(0, va_rf (some b)), (1, va_rf (some a1)), (2, va_rf (some a2)), (3, va_rf (some a3)), (4, .int x4)] []) : ∀ (a1 : Nat) (a2 : Nat) (a3 : Nat) (x4 : Int32) (σ : St) (k n : Nat), w_L_law_2661 L xs K23 a1 a2 a3 x4 σ k n → V p l e room_1 s m #[Value.ref b] below meth c (lw_Z below #[Value.ref b] s) G 0 σ0 601024 7293034 7 σ k n [(some a1, 12), (some a2, 13), (some a3, 23)] 2661 [(0, va_rf (some b)), (1, va_rf (some a1)), (2, va_rf (some a2)), (3, va_rf (some a3)), (4, .int x4)] [] := by
  intro a1 a2 a3 x4 σ k n hw
  unfold w_L_law_2661 at hw
  refine v_aload_n X 1 rfl (gD D_L_law_78 3 rfl) rfl ?_
  refine v_aload_n X 0 rfl (gD D_L_law_78 4 rfl) rfl ?_
  refine v_iload X 4 rfl (gD D_L_law_78 5 rfl) ?_
  refine v_iconst X 1 (gD D_L_law_78 6 rfl) (by decide) ?_
  refine v_iadd X (gD D_L_law_78 7 rfl) ?_
  obtain ⟨h813, hw⟩ := hw
  refine v_sld X hX h813 (gD D_L_law_78 8 rfl) ?_
  refine v_aload_n X 3 rfl (gD D_L_law_78 9 rfl) rfl ?_
  obtain ⟨k816, n817, k818, n819, h820, h821, hw⟩ := hw
  refine v_callW X (As := [va_rf (some a1), .int (xs (x4 + 1).toNatClampNeg), va_rf (some a3)]) (rest := []) (nA := 3) k816 n817 k818 n819 (fun ht => c_L_recall htr (ht.sub [0, 2] rfl) hw) (Or.inr rfl) lk_sRL_265 (by decide +kernel) rfl rfl (by decide) (by decide) (by decide) h820 h821 (gD D_L_law_78 10 rfl) (fun x814 s815 hq hx hf => ?_)
  replace hw := hq hx hf
  clear hq hx hf
  refine v_istore X [(5, .int x814), (0, va_rf (some b)), (1, va_rf (some a1)), (2, va_rf (some a2)), (3, va_rf (some a3)), (4, .int x4)] (gD D_L_law_78 11 rfl) (by decide) rfl ?_
  refine v_aload_n X 3 rfl (gD D_L_law_78 12 rfl) rfl ?_
  refine v_aload_n X 1 rfl (gD D_L_law_78 13 rfl) rfl ?_
  refine v_iload X 5 rfl (gD D_L_law_78 14 rfl) ?_
  refine v_iconst X 1 (gD D_L_law_78 15 rfl) (by decide) ?_
  refine v_iadd X (gD D_L_law_78 16 rfl) ?_
  obtain ⟨h822, hw⟩ := hw
  refine v_sld X hX h822 (gD D_L_law_78 17 rfl) ?_
  refine v_callVi X (As := [.int (xs (x4 + 1).toNatClampNeg)]) (rest := []) (nA := 1) 0 0 k818 n819 (fun ht => c_X12_recall htr (ht.sub [1] rfl) hw) (Or.inr rfl) 1 (κ := 13) rfl (by decide) (rfl : gCl[12]? = some (RX12, TX12, 65)) lk_vRL_267 (by decide +kernel) rfl rfl (by decide) (by decide) (by decide) rfl rfl (gD D_L_law_78 18 rfl) (fun x823 s824 hq hx hf => ?_)
  replace hw := hq hx hf
  clear hq hx hf
  refine v_istore X [(6, .int x823), (5, .int x814), (0, va_rf (some b)), (1, va_rf (some a1)), (2, va_rf (some a2)), (3, va_rf (some a3)), (4, .int x4)] (gD D_L_law_78 19 rfl) (by decide) rfl ?_
  refine v_aload_n X 4 rfl (gD D_L_law_78 20 rfl) rfl ?_
  refine v_callVi X (As := []) (rest := []) (nA := 0) 0 0 k818 n819 (fun ht => c_X12_thrown htr (ht.sub [1] rfl) hw) (Or.inr rfl) 1 (κ := 13) rfl (by decide) (rfl : gCl[12]? = some (RX12, TX12, 65)) lk_vRL_139 (by decide +kernel) rfl rfl (by decide) (by decide) (by decide) rfl rfl (gD D_L_law_79 0 rfl) (fun x825 s826 hq hx hf => ?_)
  replace hw := hq hx hf
  clear hq hx hf
  refine v_iload X 1 rfl (gD D_L_law_79 1 rfl) ?_
  refine v_icmp_eq X 2697 (gD D_L_law_79 2 rfl) (by decide) (fun c827 => ?_) (fun c827 => ?_)
  · replace hw := hw.1 c827
    refine v_iload X 1 rfl (gD D_L_law_79 5 rfl) ?_
    refine v_if_ne X 2714 (gD D_L_law_79 6 rfl) (by decide) (fun c828 => ?_) (fun c828 => ?_)
    · replace hw := hw.1 c828
      refine v_goto X 2730 (gD D_L_law_79 16 rfl) (by decide) ?_
      refine v_iinc X (x4 + 7) 6 rfl [(4, .int (x4 + 7)), (6, .int x823), (5, .int x814), (0, va_rf (some b)), (1, va_rf (some a1)), (2, va_rf (some a2)), (3, va_rf (some a3))] (gD D_L_law_80 3 rfl) rfl (by decide) rfl ?_
      refine v_goto X 23 (gD D_L_law_80 4 rfl) (by decide) ?_
      exact v_sub [0, 1, 2] [3, 4, 5, 6, 0] rfl rfl (hK23 a1 a2 a3 (x4 + 7) s826 k818 n819 hw)
    · replace hw := hw.2 c828
      refine v_aload_n X 5 rfl (gD D_L_law_79 7 rfl) rfl ?_
      refine v_iconst X 0 (gD D_L_law_79 8 rfl) (by decide) ?_
      obtain ⟨h829, hw⟩ := hw
      refine v_lald X 2 rfl h829 (gD D_L_law_79 9 rfl) ?_
      refine v_iload X 0 rfl (gD D_L_law_79 10 rfl) ?_
      refine v_i2l X (gD D_L_law_79 11 rfl) ?_
      refine v_lcmp X (gD D_L_law_79 12 rfl) ?_
      refine v_if_eq X 2714 (gD D_L_law_79 13 rfl) (by decide) (fun c830 => ?_) (fun c830 => ?_)
      · replace hw := hw.1 c830
        refine v_goto X 2730 (gD D_L_law_79 16 rfl) (by decide) ?_
        refine v_iinc X (x4 + 7) 6 rfl [(4, .int (x4 + 7)), (6, .int x823), (5, .int x814), (0, va_rf (some b)), (1, va_rf (some a1)), (2, va_rf (some a2)), (3, va_rf (some a3))] (gD D_L_law_80 3 rfl) rfl (by decide) rfl ?_
        refine v_goto X 23 (gD D_L_law_80 4 rfl) (by decide) ?_
        exact v_sub [0, 1, 2] [3, 4, 5, 6, 0] rfl rfl (hK23 a1 a2 a3 (x4 + 7) s826 k818 n819 hw)
      · replace hw := hw.2 c830
        refine v_iconst X 0 (gD D_L_law_79 14 rfl) (by decide) ?_
        exact hw.elim
  · replace hw := hw.2 c827
    refine v_iconst X 0 (gD D_L_law_79 3 rfl) (by decide) ?_
    exact hw.elim
set_option maxRecDepth 100000 in
set_option maxHeartbeats 4000000 in
theorem t_L_law_2717 {p : Program} {l : Launch} {e : Env} {s : State} {m : MethodId} {below : List Frame} {meth : Method} {c : Code} {G : GX} {σ0 : St} {b L : Nat} {xs : Nat → Int32} (X : VC p l room_1 s m #[Value.ref b] meth c G 11 601024 7293034 7 RL code) (hr : meth.sig.returnType = ret) (htr : l.stackTraces = false) (hX : va_X b L xs s s.heap ∧ b < s.heap.size ∧ ¬ GA G b) (hsz : ∀ q, GA G q → s.heap.size ≤ q) {K23 : Nat → Nat → Nat → Int32 → St → Nat → Nat → Prop} (hK23 : ∀ (a1 : Nat) (a2 : Nat) (a3 : Nat) (x4 : Int32) (σ : St) (k n : Nat), K23 a1 a2 a3 x4 σ k n → V p l e room_1 s m #[Value.ref b] below meth c (lw_Z below #[Value.ref b] s) G 0 σ0 601024 7293034 7 σ k n [(some a1, 12), (some a2, 13), (some a3, 23)] 23 [(0, va_rf (some b)), (1, va_rf (some a1)), (2, va_rf (some a2)), (3, va_rf (some a3)), (4, .int x4)] []) : ∀ (a1 : Nat) (a2 : Nat) (a3 : Nat) (x4 : Int32) (σ : St) (k n : Nat), w_L_law_2717 L xs K23 a1 a2 a3 x4 σ k n → V p l e room_1 s m #[Value.ref b] below meth c (lw_Z below #[Value.ref b] s) G 0 σ0 601024 7293034 7 σ k n [(some a1, 12), (some a2, 13), (some a3, 23)] 2717 [(0, va_rf (some b)), (1, va_rf (some a1)), (2, va_rf (some a2)), (3, va_rf (some a3)), (4, .int x4)] [] := by
  intro a1 a2 a3 x4 σ k n hw
  unfold w_L_law_2717 at hw
  refine v_aload_n X 1 rfl (gD D_L_law_79 17 rfl) rfl ?_
  refine v_callVi X (As := []) (rest := []) (nA := 0) 0 0 k n (fun ht => c_X11_bill htr (ht.sub [0] rfl) hw) (Or.inr rfl) 0 (κ := 12) rfl (by decide) (rfl : gCl[11]? = some (RX11, TX11, 19)) lk_vRL_268 (by decide +kernel) rfl rfl (by decide) (by decide) (by decide) rfl rfl (gD D_L_law_79 18 rfl) (fun x831 s832 hq hx hf => ?_)
  replace hw := hq hx hf
  clear hq hx hf
  refine v_aload_n X 2 rfl (gD D_L_law_79 19 rfl) rfl ?_
  refine v_callVi X (As := []) (rest := [.int x831]) (nA := 0) 0 0 k n (fun ht => c_X12_bill htr (ht.sub [1] rfl) hw) (Or.inr rfl) 1 (κ := 13) rfl (by decide) (rfl : gCl[12]? = some (RX12, TX12, 65)) lk_vRL_271 (by decide +kernel) rfl rfl (by simp [rf_cat, ct_i]) (by decide) (by decide) rfl rfl (gD D_L_law_79 20 rfl) (fun x833 s834 hq hx hf => ?_)
  replace hw := hq hx hf
  clear hq hx hf
  refine v_icmp_eq X 2730 (gD D_L_law_80 0 rfl) (by decide) (fun c835 => ?_) (fun c835 => ?_)
  · replace hw := hw.1 c835
    refine v_iinc X (x4 + 7) 4 rfl [(4, .int (x4 + 7)), (0, va_rf (some b)), (1, va_rf (some a1)), (2, va_rf (some a2)), (3, va_rf (some a3))] (gD D_L_law_80 3 rfl) rfl (by decide) rfl ?_
    refine v_goto X 23 (gD D_L_law_80 4 rfl) (by decide) ?_
    exact v_sub [0, 1, 2] [1, 2, 3, 4, 0] rfl rfl (hK23 a1 a2 a3 (x4 + 7) s834 k n hw)
  · replace hw := hw.2 c835
    refine v_iconst X 0 (gD D_L_law_80 1 rfl) (by decide) ?_
    exact hw.elim
set_option maxRecDepth 100000 in
set_option maxHeartbeats 4000000 in
theorem t_L_law_23 {p : Program} {l : Launch} {e : Env} {s : State} {m : MethodId} {below : List Frame} {meth : Method} {c : Code} {G : GX} {σ0 : St} {b L : Nat} {xs : Nat → Int32} (X : VC p l room_1 s m #[Value.ref b] meth c G 11 601024 7293034 7 RL code) (hr : meth.sig.returnType = ret) (htr : l.stackTraces = false) (hX : va_X b L xs s s.heap ∧ b < s.heap.size ∧ ¬ GA G b) (hsz : ∀ q, GA G q → s.heap.size ≤ q) : ∀ (f : Nat) (a1 : Nat) (a2 : Nat) (a3 : Nat) (x4 : Int32) (σ : St) (k n : Nat), w_L_law_23 L xs  f a1 a2 a3 x4 σ k n → V p l e room_1 s m #[Value.ref b] below meth c (lw_Z below #[Value.ref b] s) G 0 σ0 601024 7293034 7 σ k n [(some a1, 12), (some a2, 13), (some a3, 23)] 23 [(0, va_rf (some b)), (1, va_rf (some a1)), (2, va_rf (some a2)), (3, va_rf (some a3)), (4, .int x4)] [] := by
  intro f
  induction f with
  | zero => intro a1 a2 a3 x4 σ k n hw; exact hw.elim
  | succ f ih =>
    intro a1 a2 a3 x4 σ k n hw
    unfold w_L_law_23 at hw
    refine v_iload X 4 rfl (gD D_L_law_0 13 rfl) ?_
    refine v_aload_n X 0 rfl (gD D_L_law_0 14 rfl) rfl ?_
    refine v_slen X hX (gD D_L_law_0 15 rfl) ?_
    refine v_bipush X 7 (gD D_L_law_0 16 rfl) (by decide) ?_
    refine v_isub X (gD D_L_law_0 17 rfl) ?_
    refine v_icmp_gt X 2736 (gD D_L_law_0 18 rfl) (by decide) (fun c87 => ?_) (fun c87 => ?_)
    · replace hw := hw.1 c87
      refine v_iconst X 1 (gD D_L_law_80 5 rfl) (by decide) ?_
      exact v_lret X hr hsz (gD D_L_law_80 6 rfl)
    · replace hw := hw.2 c87
      refine v_aload_n X 0 rfl (gD D_L_law_0 19 rfl) rfl ?_
      refine v_iload X 4 rfl (gD D_L_law_0 20 rfl) ?_
      obtain ⟨h88, hw⟩ := hw
      refine v_sld X hX h88 (gD D_L_law_1 0 rfl) ?_
      refine v_bipush X 63 (gD D_L_law_1 1 rfl) (by decide) ?_
      refine v_iand X (gD D_L_law_1 2 rfl) ?_
      refine v_tab X [216, 276, 348, 446, 549, 617, 685, 753, 821, 877, 945, 1025, 1081, 1137, 1205, 1218, 1314, 1394, 1407, 1475, 1555, 1623, 1691, 1747, 1803, 1859, 1872, 1928, 1941, 2021, 2089, 2169, 2225, 2293, 2349, 2417, 2485, 2565, 2661, 2717] 2730 (gD D_L_law_1 3 rfl) (by decide) (by decide) (by decide) (fun c => ?_) (fun j tgt hj ht => ?_)
      · replace hw := hw.1 c
        refine v_iinc X (x4 + 7) 4 rfl [(4, .int (x4 + 7)), (0, va_rf (some b)), (1, va_rf (some a1)), (2, va_rf (some a2)), (3, va_rf (some a3))] (gD D_L_law_80 3 rfl) rfl (by decide) rfl ?_
        refine v_goto X 23 (gD D_L_law_80 4 rfl) (by decide) ?_
        exact v_sub [0, 1, 2] [1, 2, 3, 4, 0] rfl rfl (ih a1 a2 a3 (x4 + 7) σ k n hw)
      · match j, hj, ht with
        | 0, hj, ht =>
          replace hw := hw.2.1 hj
          have ht := Option.some.inj (show some 216 = some tgt from ht)
          subst ht
          exact v_sub [0, 1, 2] [0, 1, 2, 3, 4] rfl rfl (t_L_law_216 X hr htr hX hsz ih a1 a2 a3 x4 σ k n hw)
        | 1, hj, ht =>
          replace hw := hw.2.2.1 hj
          have ht := Option.some.inj (show some 276 = some tgt from ht)
          subst ht
          exact v_sub [0, 1, 2] [0, 1, 2, 3, 4] rfl rfl (t_L_law_276 X hr htr hX hsz ih a1 a2 a3 x4 σ k n hw)
        | 2, hj, ht =>
          replace hw := hw.2.2.2.1 hj
          have ht := Option.some.inj (show some 348 = some tgt from ht)
          subst ht
          exact v_sub [0, 1, 2] [0, 1, 2, 3, 4] rfl rfl (t_L_law_348 X hr htr hX hsz ih a1 a2 a3 x4 σ k n hw)
        | 3, hj, ht =>
          replace hw := hw.2.2.2.2.1 hj
          have ht := Option.some.inj (show some 446 = some tgt from ht)
          subst ht
          exact v_sub [0, 1, 2] [0, 1, 2, 3, 4] rfl rfl (t_L_law_446 X hr htr hX hsz ih a1 a2 a3 x4 σ k n hw)
        | 4, hj, ht =>
          replace hw := hw.2.2.2.2.2.1 hj
          have ht := Option.some.inj (show some 549 = some tgt from ht)
          subst ht
          exact v_sub [0, 1, 2] [0, 1, 2, 3, 4] rfl rfl (t_L_law_549 X hr htr hX hsz ih a1 a2 a3 x4 σ k n hw)
        | 5, hj, ht =>
          replace hw := hw.2.2.2.2.2.2.1 hj
          have ht := Option.some.inj (show some 617 = some tgt from ht)
          subst ht
          exact v_sub [0, 1, 2] [0, 1, 2, 3, 4] rfl rfl (t_L_law_617 X hr htr hX hsz ih a1 a2 a3 x4 σ k n hw)
        | 6, hj, ht =>
          replace hw := hw.2.2.2.2.2.2.2.1 hj
          have ht := Option.some.inj (show some 685 = some tgt from ht)
          subst ht
          exact v_sub [0, 1, 2] [0, 1, 2, 3, 4] rfl rfl (t_L_law_685 X hr htr hX hsz ih a1 a2 a3 x4 σ k n hw)
        | 7, hj, ht =>
          replace hw := hw.2.2.2.2.2.2.2.2.1 hj
          have ht := Option.some.inj (show some 753 = some tgt from ht)
          subst ht
          exact v_sub [0, 1, 2] [0, 1, 2, 3, 4] rfl rfl (t_L_law_753 X hr htr hX hsz ih a1 a2 a3 x4 σ k n hw)
        | 8, hj, ht =>
          replace hw := hw.2.2.2.2.2.2.2.2.2.1 hj
          have ht := Option.some.inj (show some 821 = some tgt from ht)
          subst ht
          exact v_sub [0, 1, 2] [0, 1, 2, 3, 4] rfl rfl (t_L_law_821 X hr htr hX hsz ih a1 a2 a3 x4 σ k n hw)
        | 9, hj, ht =>
          replace hw := hw.2.2.2.2.2.2.2.2.2.2.1 hj
          have ht := Option.some.inj (show some 877 = some tgt from ht)
          subst ht
          exact v_sub [0, 1, 2] [0, 1, 2, 3, 4] rfl rfl (t_L_law_877 X hr htr hX hsz ih a1 a2 a3 x4 σ k n hw)
        | 10, hj, ht =>
          replace hw := hw.2.2.2.2.2.2.2.2.2.2.2.1 hj
          have ht := Option.some.inj (show some 945 = some tgt from ht)
          subst ht
          exact v_sub [0, 1, 2] [0, 1, 2, 3, 4] rfl rfl (t_L_law_945 X hr htr hX hsz ih a1 a2 a3 x4 σ k n hw)
        | 11, hj, ht =>
          replace hw := hw.2.2.2.2.2.2.2.2.2.2.2.2.1 hj
          have ht := Option.some.inj (show some 1025 = some tgt from ht)
          subst ht
          exact v_sub [0, 1, 2] [0, 1, 2, 3, 4] rfl rfl (t_L_law_1025 X hr htr hX hsz ih a1 a2 a3 x4 σ k n hw)
        | 12, hj, ht =>
          replace hw := hw.2.2.2.2.2.2.2.2.2.2.2.2.2.1 hj
          have ht := Option.some.inj (show some 1081 = some tgt from ht)
          subst ht
          exact v_sub [0, 1, 2] [0, 1, 2, 3, 4] rfl rfl (t_L_law_1081 X hr htr hX hsz ih a1 a2 a3 x4 σ k n hw)
        | 13, hj, ht =>
          replace hw := hw.2.2.2.2.2.2.2.2.2.2.2.2.2.2.1 hj
          have ht := Option.some.inj (show some 1137 = some tgt from ht)
          subst ht
          exact v_sub [0, 1, 2] [0, 1, 2, 3, 4] rfl rfl (t_L_law_1137 X hr htr hX hsz ih a1 a2 a3 x4 σ k n hw)
        | 14, hj, ht =>
          replace hw := hw.2.2.2.2.2.2.2.2.2.2.2.2.2.2.2.1 hj
          have ht := Option.some.inj (show some 1205 = some tgt from ht)
          subst ht
          exact v_sub [0, 1, 2] [0, 1, 2, 3, 4] rfl rfl (t_L_law_1205 X hr htr hX hsz ih a1 a2 a3 x4 σ k n hw)
        | 15, hj, ht =>
          replace hw := hw.2.2.2.2.2.2.2.2.2.2.2.2.2.2.2.2.1 hj
          have ht := Option.some.inj (show some 1218 = some tgt from ht)
          subst ht
          exact v_sub [0, 1, 2] [0, 1, 2, 3, 4] rfl rfl (t_L_law_1218 X hr htr hX hsz ih a1 a2 a3 x4 σ k n hw)
        | 16, hj, ht =>
          replace hw := hw.2.2.2.2.2.2.2.2.2.2.2.2.2.2.2.2.2.1 hj
          have ht := Option.some.inj (show some 1314 = some tgt from ht)
          subst ht
          exact v_sub [0, 1, 2] [0, 1, 2, 3, 4] rfl rfl (t_L_law_1314 X hr htr hX hsz ih a1 a2 a3 x4 σ k n hw)
        | 17, hj, ht =>
          replace hw := hw.2.2.2.2.2.2.2.2.2.2.2.2.2.2.2.2.2.2.1 hj
          have ht := Option.some.inj (show some 1394 = some tgt from ht)
          subst ht
          exact v_sub [0, 1, 2] [0, 1, 2, 3, 4] rfl rfl (t_L_law_1394 X hr htr hX hsz ih a1 a2 a3 x4 σ k n hw)
        | 18, hj, ht =>
          replace hw := hw.2.2.2.2.2.2.2.2.2.2.2.2.2.2.2.2.2.2.2.1 hj
          have ht := Option.some.inj (show some 1407 = some tgt from ht)
          subst ht
          exact v_sub [0, 1, 2] [0, 1, 2, 3, 4] rfl rfl (t_L_law_1407 X hr htr hX hsz ih a1 a2 a3 x4 σ k n hw)
        | 19, hj, ht =>
          replace hw := hw.2.2.2.2.2.2.2.2.2.2.2.2.2.2.2.2.2.2.2.2.1 hj
          have ht := Option.some.inj (show some 1475 = some tgt from ht)
          subst ht
          exact v_sub [0, 1, 2] [0, 1, 2, 3, 4] rfl rfl (t_L_law_1475 X hr htr hX hsz ih a1 a2 a3 x4 σ k n hw)
        | 20, hj, ht =>
          replace hw := hw.2.2.2.2.2.2.2.2.2.2.2.2.2.2.2.2.2.2.2.2.2.1 hj
          have ht := Option.some.inj (show some 1555 = some tgt from ht)
          subst ht
          exact v_sub [0, 1, 2] [0, 1, 2, 3, 4] rfl rfl (t_L_law_1555 X hr htr hX hsz ih a1 a2 a3 x4 σ k n hw)
        | 21, hj, ht =>
          replace hw := hw.2.2.2.2.2.2.2.2.2.2.2.2.2.2.2.2.2.2.2.2.2.2.1 hj
          have ht := Option.some.inj (show some 1623 = some tgt from ht)
          subst ht
          exact v_sub [0, 1, 2] [0, 1, 2, 3, 4] rfl rfl (t_L_law_1623 X hr htr hX hsz ih a1 a2 a3 x4 σ k n hw)
        | 22, hj, ht =>
          replace hw := hw.2.2.2.2.2.2.2.2.2.2.2.2.2.2.2.2.2.2.2.2.2.2.2.1 hj
          have ht := Option.some.inj (show some 1691 = some tgt from ht)
          subst ht
          exact v_sub [0, 1, 2] [0, 1, 2, 3, 4] rfl rfl (t_L_law_1691 X hr htr hX hsz ih a1 a2 a3 x4 σ k n hw)
        | 23, hj, ht =>
          replace hw := hw.2.2.2.2.2.2.2.2.2.2.2.2.2.2.2.2.2.2.2.2.2.2.2.2.1 hj
          have ht := Option.some.inj (show some 1747 = some tgt from ht)
          subst ht
          exact v_sub [0, 1, 2] [0, 1, 2, 3, 4] rfl rfl (t_L_law_1747 X hr htr hX hsz ih a1 a2 a3 x4 σ k n hw)
        | 24, hj, ht =>
          replace hw := hw.2.2.2.2.2.2.2.2.2.2.2.2.2.2.2.2.2.2.2.2.2.2.2.2.2.1 hj
          have ht := Option.some.inj (show some 1803 = some tgt from ht)
          subst ht
          exact v_sub [0, 1, 2] [0, 1, 2, 3, 4] rfl rfl (t_L_law_1803 X hr htr hX hsz ih a1 a2 a3 x4 σ k n hw)
        | 25, hj, ht =>
          replace hw := hw.2.2.2.2.2.2.2.2.2.2.2.2.2.2.2.2.2.2.2.2.2.2.2.2.2.2.1 hj
          have ht := Option.some.inj (show some 1859 = some tgt from ht)
          subst ht
          exact v_sub [0, 1, 2] [0, 1, 2, 3, 4] rfl rfl (t_L_law_1859 X hr htr hX hsz ih a1 a2 a3 x4 σ k n hw)
        | 26, hj, ht =>
          replace hw := hw.2.2.2.2.2.2.2.2.2.2.2.2.2.2.2.2.2.2.2.2.2.2.2.2.2.2.2.1 hj
          have ht := Option.some.inj (show some 1872 = some tgt from ht)
          subst ht
          exact v_sub [0, 1, 2] [0, 1, 2, 3, 4] rfl rfl (t_L_law_1872 X hr htr hX hsz ih a1 a2 a3 x4 σ k n hw)
        | 27, hj, ht =>
          replace hw := hw.2.2.2.2.2.2.2.2.2.2.2.2.2.2.2.2.2.2.2.2.2.2.2.2.2.2.2.2.1 hj
          have ht := Option.some.inj (show some 1928 = some tgt from ht)
          subst ht
          exact v_sub [0, 1, 2] [0, 1, 2, 3, 4] rfl rfl (t_L_law_1928 X hr htr hX hsz ih a1 a2 a3 x4 σ k n hw)
        | 28, hj, ht =>
          replace hw := hw.2.2.2.2.2.2.2.2.2.2.2.2.2.2.2.2.2.2.2.2.2.2.2.2.2.2.2.2.2.1 hj
          have ht := Option.some.inj (show some 1941 = some tgt from ht)
          subst ht
          exact v_sub [0, 1, 2] [0, 1, 2, 3, 4] rfl rfl (t_L_law_1941 X hr htr hX hsz ih a1 a2 a3 x4 σ k n hw)
        | 29, hj, ht =>
          replace hw := hw.2.2.2.2.2.2.2.2.2.2.2.2.2.2.2.2.2.2.2.2.2.2.2.2.2.2.2.2.2.2.1 hj
          have ht := Option.some.inj (show some 2021 = some tgt from ht)
          subst ht
          exact v_sub [0, 1, 2] [0, 1, 2, 3, 4] rfl rfl (t_L_law_2021 X hr htr hX hsz ih a1 a2 a3 x4 σ k n hw)
        | 30, hj, ht =>
          replace hw := hw.2.2.2.2.2.2.2.2.2.2.2.2.2.2.2.2.2.2.2.2.2.2.2.2.2.2.2.2.2.2.2.1 hj
          have ht := Option.some.inj (show some 2089 = some tgt from ht)
          subst ht
          exact v_sub [0, 1, 2] [0, 1, 2, 3, 4] rfl rfl (t_L_law_2089 X hr htr hX hsz ih a1 a2 a3 x4 σ k n hw)
        | 31, hj, ht =>
          replace hw := hw.2.2.2.2.2.2.2.2.2.2.2.2.2.2.2.2.2.2.2.2.2.2.2.2.2.2.2.2.2.2.2.2.1 hj
          have ht := Option.some.inj (show some 2169 = some tgt from ht)
          subst ht
          exact v_sub [0, 1, 2] [0, 1, 2, 3, 4] rfl rfl (t_L_law_2169 X hr htr hX hsz ih a1 a2 a3 x4 σ k n hw)
        | 32, hj, ht =>
          replace hw := hw.2.2.2.2.2.2.2.2.2.2.2.2.2.2.2.2.2.2.2.2.2.2.2.2.2.2.2.2.2.2.2.2.2.1 hj
          have ht := Option.some.inj (show some 2225 = some tgt from ht)
          subst ht
          exact v_sub [0, 1, 2] [0, 1, 2, 3, 4] rfl rfl (t_L_law_2225 X hr htr hX hsz ih a1 a2 a3 x4 σ k n hw)
        | 33, hj, ht =>
          replace hw := hw.2.2.2.2.2.2.2.2.2.2.2.2.2.2.2.2.2.2.2.2.2.2.2.2.2.2.2.2.2.2.2.2.2.2.1 hj
          have ht := Option.some.inj (show some 2293 = some tgt from ht)
          subst ht
          exact v_sub [0, 1, 2] [0, 1, 2, 3, 4] rfl rfl (t_L_law_2293 X hr htr hX hsz ih a1 a2 a3 x4 σ k n hw)
        | 34, hj, ht =>
          replace hw := hw.2.2.2.2.2.2.2.2.2.2.2.2.2.2.2.2.2.2.2.2.2.2.2.2.2.2.2.2.2.2.2.2.2.2.2.1 hj
          have ht := Option.some.inj (show some 2349 = some tgt from ht)
          subst ht
          exact v_sub [0, 1, 2] [0, 1, 2, 3, 4] rfl rfl (t_L_law_2349 X hr htr hX hsz ih a1 a2 a3 x4 σ k n hw)
        | 35, hj, ht =>
          replace hw := hw.2.2.2.2.2.2.2.2.2.2.2.2.2.2.2.2.2.2.2.2.2.2.2.2.2.2.2.2.2.2.2.2.2.2.2.2.1 hj
          have ht := Option.some.inj (show some 2417 = some tgt from ht)
          subst ht
          exact v_sub [0, 1, 2] [0, 1, 2, 3, 4] rfl rfl (t_L_law_2417 X hr htr hX hsz ih a1 a2 a3 x4 σ k n hw)
        | 36, hj, ht =>
          replace hw := hw.2.2.2.2.2.2.2.2.2.2.2.2.2.2.2.2.2.2.2.2.2.2.2.2.2.2.2.2.2.2.2.2.2.2.2.2.2.1 hj
          have ht := Option.some.inj (show some 2485 = some tgt from ht)
          subst ht
          exact v_sub [0, 1, 2] [0, 1, 2, 3, 4] rfl rfl (t_L_law_2485 X hr htr hX hsz ih a1 a2 a3 x4 σ k n hw)
        | 37, hj, ht =>
          replace hw := hw.2.2.2.2.2.2.2.2.2.2.2.2.2.2.2.2.2.2.2.2.2.2.2.2.2.2.2.2.2.2.2.2.2.2.2.2.2.2.1 hj
          have ht := Option.some.inj (show some 2565 = some tgt from ht)
          subst ht
          exact v_sub [0, 1, 2] [0, 1, 2, 3, 4] rfl rfl (t_L_law_2565 X hr htr hX hsz ih a1 a2 a3 x4 σ k n hw)
        | 38, hj, ht =>
          replace hw := hw.2.2.2.2.2.2.2.2.2.2.2.2.2.2.2.2.2.2.2.2.2.2.2.2.2.2.2.2.2.2.2.2.2.2.2.2.2.2.2.1 hj
          have ht := Option.some.inj (show some 2661 = some tgt from ht)
          subst ht
          exact v_sub [0, 1, 2] [0, 1, 2, 3, 4] rfl rfl (t_L_law_2661 X hr htr hX hsz ih a1 a2 a3 x4 σ k n hw)
        | 39, hj, ht =>
          replace hw := hw.2.2.2.2.2.2.2.2.2.2.2.2.2.2.2.2.2.2.2.2.2.2.2.2.2.2.2.2.2.2.2.2.2.2.2.2.2.2.2.2 hj
          have ht := Option.some.inj (show some 2717 = some tgt from ht)
          subst ht
          exact v_sub [0, 1, 2] [0, 1, 2, 3, 4] rfl rfl (t_L_law_2717 X hr htr hX hsz ih a1 a2 a3 x4 σ k n hw)
        | j + 40, hj, ht => exact absurd ht (by simp)
set_option maxRecDepth 100000 in
set_option maxHeartbeats 4000000 in
theorem c_L_law {p : Program} {l : Launch} {e : Env} {s : State} {m : MethodId} {below : List Frame} {meth : Method} {c : Code} {G : GX} {σ0 : St} {b L : Nat} {xs : Nat → Int32} (X : VC p l room_1 s m #[Value.ref b] meth c G 11 601024 7293034 7 RL code) (hr : meth.sig.returnType = ret) (htr : l.stackTraces = false) (hX : va_X b L xs s s.heap ∧ b < s.heap.size ∧ ¬ GA G b) (hsz : ∀ q, GA G q → s.heap.size ≤ q) (σ : St) (k n : Nat) (hw : w_L_law L xs k n σ) : V p l e room_1 s m #[Value.ref b] below meth c (lw_Z below #[Value.ref b] s) G 0 σ0 601024 7293034 7 σ k n [] 0 [(0, va_rf (some b))] [] := by
  unfold w_L_law at hw
  obtain ⟨k51, n52, h53, h54, hw⟩ := hw
  refine v_new X RX11 TX11 19 12 11 (by decide) rfl gin11 tyX11 tyX11_ok lk_kRL_8 lk_tX11 lk_n_RX11 dfl_X11 k51 n52 h53 h54 (gD D_L_law_0 0 rfl) (fun a55 s56 ha55 es56 => ?_)
  replace hw := hw a55 s56 ha55 es56
  refine v_dup X (gD D_L_law_0 1 rfl) (rf_cat _) ?_
  obtain ⟨k59, n60, k61, n62, h63, h64, hw⟩ := hw
  refine v_callIv X (As := []) (rest := [va_rf (some a55)]) (nA := 0) k59 n60 k61 n62 (fun ht => c_X11_init htr (ht.sub [0] rfl) hw) (Or.inr rfl) lk_c_X11_init lk_n_RX11 lk_mRL_129 lk_i_X11_init rfl (by decide +kernel) rfl rfl (by simp [rf_cat, ct_i]) (by decide) (by decide) h63 h64 (gD D_L_law_0 2 rfl) (fun s58 hq hx hf => ?_)
  replace hw := hq hx hf
  clear hq hx hf
  refine v_astore_n X [(1, va_rf (some a55)), (0, va_rf (some b))] (gD D_L_law_0 3 rfl) rfl (by decide) rfl ?_
  obtain ⟨k65, n66, h67, h68, hw⟩ := hw
  refine v_new X RX12 TX12 65 13 12 (by decide) rfl gin12 tyX12 tyX12_ok lk_kRL_130 lk_tX12 lk_n_RX12 dfl_X12 k65 n66 h67 h68 (gD D_L_law_0 4 rfl) (fun a69 s70 ha69 es70 => ?_)
  replace hw := hw a69 s70 ha69 es70
  refine v_dup X (gD D_L_law_0 5 rfl) (rf_cat _) ?_
  obtain ⟨k73, n74, k75, n76, h77, h78, hw⟩ := hw
  refine v_callIv X (As := []) (rest := [va_rf (some a69)]) (nA := 0) k73 n74 k75 n76 (fun ht => c_X12_init htr (ht.sub [0] rfl) hw) (Or.inr rfl) lk_c_X12_init lk_n_RX12 lk_mRL_132 lk_i_X12_init rfl (by decide +kernel) rfl rfl (by simp [rf_cat, ct_i]) (by decide) (by decide) h77 h78 (gD D_L_law_0 6 rfl) (fun s72 hq hx hf => ?_)
  replace hw := hq hx hf
  clear hq hx hf
  refine v_astore_n X [(2, va_rf (some a69)), (1, va_rf (some a55)), (0, va_rf (some b))] (gD D_L_law_0 7 rfl) rfl (by decide) rfl ?_
  refine v_iconst X 1 (gD D_L_law_0 8 rfl) (by decide) ?_
  obtain ⟨h79, h80, hw⟩ := hw
  obtain ⟨k81, n82, h83, h84, hw⟩ := hw
  refine v_newJ X lk_aclong h79 h80 k81 n82 h83 h84 (gD D_L_law_0 9 rfl) (fun a85 s86 ha85 es86 => ?_)
  replace hw := hw a85 s86 ha85 es86
  refine v_astore_n X [(3, va_rf (some a85)), (2, va_rf (some a69)), (1, va_rf (some a55)), (0, va_rf (some b))] (gD D_L_law_0 10 rfl) rfl (by decide) rfl ?_
  refine v_iconst X 0 (gD D_L_law_0 11 rfl) (by decide) ?_
  refine v_istore X [(4, .int 0), (3, va_rf (some a85)), (2, va_rf (some a69)), (1, va_rf (some a55)), (0, va_rf (some b))] (gD D_L_law_0 12 rfl) (by decide) rfl ?_
  obtain ⟨f836, hw⟩ := hw
  exact v_sub [2, 1, 0] [4, 3, 2, 1, 0] rfl rfl (t_L_law_23 X hr htr hX hsz  f836 a55 a69 a85 0 s86 k81 n82 hw)
