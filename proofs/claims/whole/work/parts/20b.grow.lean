section
variable {σ : St} {l e : Nat} {xs : List Nat}
theorem nI_z : (0 : Int32).toNatClampNeg = 0 := by decide +kernel
theorem cp_arr {k n m a2 : Nat} (he : sK σ e ≠ 0) (h0 : 0 < sL σ e) (hm : sL σ e ≤ m) (hm2 : m ≤ 4000) (hk : 1 ≤ k) (hn : m ≤ n) (ha : ∀ b, 2 ≤ sC σ b ↔ b = a2) {Q : Option Nat → St → Prop} (hq : ∀ q τ, sK σ q = 0 → τ = cpyQ q (va_cpy (sQ σ e) (fun _ => none) 0 0 (sL σ e)) (newA 50 q m σ) → Q (some q) τ) : w_J7_copyOf_6403c k n e (nI m) a2 σ Q := by
  unfold w_J7_copyOf_6403c
  intro a51 h51
  have e51 : a2 = a51 := (h51 a2).mp ((ha a2).mpr rfl)
  refine ⟨fun q => absurd (by rw [e51]) q, fun _ => ?_⟩
  have hcl : (nI m).toNatClampNeg = m := nI_clamp (by omega)
  refine ⟨nI_pos (by omega), by rw [hcl]; omega, k - 1, n - m, by omega, by rw [hcl]; omega, ?_⟩
  rintro q s hq0 rfl
  rw [hcl]
  have hne : e ≠ q := fun h => he (by rw [h]; exact hq0)
  have h1 : sL (newA 50 q m σ) e = sL σ e := by rw [sL_newA, u1_at, if_neg hne]
  have h2 : sL (newA 50 q m σ) q = m := by rw [sL_newA, u1_at, if_pos rfl]
  have h3 : sQ (newA 50 q m σ) e = sQ σ e := by funext j; rw [sQ_newA, u2l_at, if_neg hne]
  have h4 : sQ (newA 50 q m σ) q = fun _ => none := by funext j; rw [sQ_newA, u2l_at, if_pos rfl]
  rw [h1, h2, h3, h4]
  have h5 : (if nI m < nI (sL σ e) then nI m else nI (sL σ e)) = nI (sL σ e) := if_neg (nI_nlt (a := m) (b := sL σ e) hm (by omega))
  rw [h5, nI_clamp (by omega), nI_z]
  refine ⟨by decide, by decide, nI_pos (by omega), by omega, by omega, h0, by omega, ?_⟩
  rintro s rfl
  exact hq q _ hq0 rfl
/-- a list that has grown -/
def GRW (σ τ : St) (l e q : Nat) (len : Nat) : Prop := sK σ q = 0 ∧ sK τ q = 50 ∧ sR τ 1301 l = some q ∧ sL τ q = capN (sL σ e) ∧ (∀ j, j < len → sQ τ q j = sQ σ e j) ∧ (∀ f a, sI τ f a = sI σ f a) ∧ chL σ τ l e q
theorem ls_grow (h : LSTe σ l e xs) (hf : xs.length = sL σ e) (hc : sL σ e < 2600) {k n : Nat} (hk : 1 ≤ k) (hn : capN (sL σ e) ≤ n) {Q : Option Nat → St → Prop} (hq : ∀ q τ, GRW σ τ l e q xs.length → Q (some q) τ) : w_Jx4a65c_grow_d5877 k n l σ Q := by
  obtain ⟨g1, g2, g3, g4, g5, g6, g7, g8⟩ := h
  unfold w_Jx4a65c_grow_d5877
  refine ⟨k, n, 0, 0, by omega, by omega, ?_⟩
  rw [g2, hf, nI_1]
  unfold w_Jx4a65c_grow_92f84
  rintro o rfl
  refine ⟨e, g1, ?_⟩
  rintro x rfl
  have hne0 : sL σ e ≠ 0 → w_Jx4a65c_grow_92f84_20 Q l (nI (sL σ e + 1)) (nI (sL σ e)) σ k n := fun h0 => by
    unfold w_Jx4a65c_grow_92f84_20
    have e1 : nI (sL σ e + 1) - nI (sL σ e) = 1 := by rw [pk_sub (by omega), show sL σ e + 1 - sL σ e = 1 by omega]; rfl
    rw [e1, shr1 _ (by omega)]
    refine newLen (by omega) (by omega) ?_
    rintro o rfl
    refine ⟨e, g1, k, n, 0, 0, by omega, by omega, ?_⟩
    unfold w_J7_copyOf_1904c
    intro a51 h51
    refine ⟨k, n, 0, 0, by omega, by omega, ?_⟩
    have hcm : sL σ e ≤ capN (sL σ e) ∧ capN (sL σ e) ≤ 4000 := by unfold capN; rw [if_neg h0]; split <;> omega
    refine cp_arr (by rw [g8]; decide) (by omega) hcm.1 hcm.2 hk hn h51 ?_
    rintro q τ hq0 rfl s rfl
    have hne : e ≠ q := fun h => by rw [← h, g8] at hq0; cases hq0
    have hnl : l ≠ q := fun h => by rw [← h, g7] at hq0; cases hq0
    refine hq q _ ⟨hq0, ?_, ?_, ?_, fun j hj => ?_, fun f a => rfl, fun f a _ => rfl, fun f a hfa => ?_, fun a ha => ⟨?_, ?_, ?_, ?_⟩, rfl, Or.inr hq0⟩
    · rw [sK_setR, sK_cpyQ, sK_newA, u1_at, if_pos rfl]
    · rw [sR_setR, u2_at, if_pos ⟨rfl, rfl⟩]
    · rw [sL_setR, sL_cpyQ, sL_newA, u1_at, if_pos rfl]
    · rw [sQ_setR, sQ_cpyQ, u2l_at, if_pos rfl]
      unfold va_cpy
      rw [if_pos ⟨by omega, by omega⟩]
      congr 1
      omega
    · rw [sR_setR, u2_at, if_neg (fun q9 => by rcases hfa with r | r; exact r q9.2; exact r q9.1)]
      rfl
    · funext j; rw [sA_setR, sA_cpyQ, sA_newA, u2l_at, if_neg ha]
    · rw [sL_setR, sL_cpyQ, sL_newA, u1_at, if_neg ha]
    · funext j; rw [sQ_setR, sQ_cpyQ, u2l_at, if_neg ha, sQ_newA, u2l_at, if_neg ha]
    · rw [sK_setR, sK_cpyQ, sK_newA, u1_at, if_neg ha]
  refine ⟨fun h0 => hne0 (fun q => by rw [q] at h0; exact absurd h0 (by decide)), fun h0 => ?_⟩
  rintro o rfl
  intro a69 h69
  by_cases hz : sL σ e = 0
  · have h70 : e = a69 := (h69 e).mp (g6 hz)
    refine ⟨fun _ => ?_, fun q => absurd (by rw [g1, h70]) q⟩
    have e2 : (if (10 : Int32) < nI (sL σ e + 1) then nI (sL σ e + 1) else 10) = 10 := by rw [hz]; decide +kernel
    rw [e2]
    have e3 : (10 : Int32).toNatClampNeg = 10 := by decide +kernel
    have e4 : capN (sL σ e) = 10 := by rw [hz]; rfl
    rw [e3]
    refine ⟨by decide, by decide, k - 1, n - 10, by omega, by omega, ?_⟩
    rintro q s hq0 rfl s rfl
    refine hq q _ ⟨hq0, ?_, ?_, ?_, fun j hj => by omega, fun f a => rfl, fun f a _ => rfl, fun f a hfa => ?_, fun a ha => ⟨?_, ?_, ?_, ?_⟩, rfl, Or.inr hq0⟩
    · rw [sK_setR, sK_newA, u1_at, if_pos rfl]
    · rw [sR_setR, u2_at, if_pos ⟨rfl, rfl⟩]
    · rw [sL_setR, sL_newA, u1_at, if_pos rfl, e4]
    · rw [sR_setR, u2_at, if_neg (fun q9 => by rcases hfa with r | r; exact r q9.2; exact r q9.1)]
      rfl
    · funext j; rw [sA_setR, sA_newA, u2l_at, if_neg ha]
    · rw [sL_setR, sL_newA, u1_at, if_neg ha]
    · funext j; rw [sQ_setR, sQ_newA, u2l_at, if_neg ha]
    · rw [sK_setR, sK_newA, u1_at, if_neg ha]
  · exact absurd (nI_lt (a := 0) (b := sL σ e) (by omega) (by omega)) h0
end
