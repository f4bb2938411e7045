/-! LISTS: what the list's methods do to a store -/
def LSTe (σ : St) (l e : Nat) (xs : List Nat) : Prop := sR σ 1301 l = some e ∧ sI σ 1302 l = nI xs.length ∧ xs.length ≤ sL σ e ∧ sL σ e ≤ 4000 ∧ (∀ j x, xs[j]? = some x → sQ σ e j = some x) ∧ (sL σ e = 0 → sC σ e % 2 = 1) ∧ sK σ l = 30 ∧ sK σ e = 50
/-- what changes when a list changes: the list's own numbers, its array (an old one or a new one) -/
def chL (σ τ : St) (l e e' : Nat) : Prop := (∀ f a, a ≠ l ∨ (f ≠ 1300 ∧ f ≠ 1302) → sI τ f a = sI σ f a) ∧ (∀ f a, a ≠ l ∨ f ≠ 1301 → sR τ f a = sR σ f a) ∧ (∀ a, a ≠ e' → sA τ a = sA σ a ∧ sL τ a = sL σ a ∧ sQ τ a = sQ σ a ∧ sK τ a = sK σ a) ∧ sC τ = sC σ ∧ ((e' = e ∧ sL τ e' = sL σ e' ∧ sA τ e' = sA σ e' ∧ sK τ e' = sK σ e') ∨ sK σ e' = 0)
section
variable {σ : St} {l e : Nat} {xs : List Nat}
theorem LSTe.lt (h : LSTe σ l e xs) : xs.length < 2 ^ 31 := by
  have h1 := h.2.2.1
  have h2 := h.2.2.2.1
  omega
theorem ls_size (h : LSTe σ l e xs) {Q : Int32 → St → Prop} (hq : Q (nI xs.length) σ) : w_Jx4a65c_size_8abf5 l σ Q := by
  unfold w_Jx4a65c_size_8abf5
  rw [h.2.1]
  exact hq
theorem ls_isEmpty (h : LSTe σ l e xs) {Q : Int32 → St → Prop} (hq : Q (if xs.length = 0 then 1 else 0) σ) : w_Jx4a65c_isEmpty_aae02 l σ Q := by
  unfold w_Jx4a65c_isEmpty_aae02
  rw [h.2.1]
  have hl := h.lt
  refine ⟨fun h1 => ?_, fun h1 => ?_⟩
  · rw [if_neg (fun q => h1 (by rw [q]; rfl))] at hq
    exact hq
  · have h2 : xs.length = 0 := (nI_eq hl (by decide)).mp h1
    rw [if_pos h2] at hq
    exact hq
theorem ck_ix {i n : Nat} (hi : i < n) (hn : n < 2 ^ 31) {Q : Int32 → St → Prop} (hq : Q (nI i) σ) : w_J15_checkIndex_7cf53 (nI i) (nI n) σ Q := by
  unfold w_J15_checkIndex_7cf53 w_J3_checkIndex_8e157
  refine ⟨fun h1 => nI_pos (by omega) h1, fun _ => ⟨fun _ => hq, fun h1 => h1 (nI_lt hi hn)⟩⟩
theorem ls_get (h : LSTe σ l e xs) {i x : Nat} (hx : xs[i]? = some x) {Q : Option Nat → St → Prop} (hq : Q (some x) σ) : w_Jx4a65c_get_915e3 l (nI i) σ Q := by
  have hl := h.lt
  have hi : i < xs.length := (List.getElem?_eq_some_iff.mp hx).1
  unfold w_Jx4a65c_get_915e3
  rw [h.2.1]
  refine ck_ix hi hl ?_
  unfold w_Jx4a65c_elementData_915e3
  rintro o rfl
  refine ⟨e, h.1, vp_in_nI (Nat.lt_of_lt_of_le hi h.2.2.1) (by have := h.2.2.2.1; omega), ?_⟩
  rintro o rfl
  rw [nI_clamp (by omega), h.2.2.2.2.1 _ _ hx]
  exact hq
theorem shr1a : ∀ c, c < 63 → ∀ d, d < 64 → nI (64 * c + d) >>> (1 &&& 31) = nI ((64 * c + d) / 2) := by decide +kernel
theorem shr1 (c : Nat) (h : c < 4001) : nI c >>> (1 &&& 31) = nI (c / 2) := by
  have h1 := shr1a (c / 64) (by omega) (c % 64) (by omega)
  rw [show 64 * (c / 64) + c % 64 = c by omega] at h1
  exact h1
/-- the capacity that a full list grows to -/
def capN (c : Nat) : Nat := if c = 0 then 10 else if c = 1 then 2 else c + c / 2
theorem newLen {c : Nat} (h0 : 0 < c) (h : c < 4000) {Q : Int32 → St → Prop} (hq : Q (nI (capN c)) σ) : w_J8_newLength_cabcc (nI c) 1 (nI (c / 2)) σ Q := by
  unfold w_J8_newLength_cabcc
  rintro x rfl
  have e1 : nI c + (if (1 : Int32) < nI (c / 2) then nI (c / 2) else 1) = nI (capN c) := by
    by_cases h1 : c = 1
    · subst h1; decide +kernel
    · have hc : capN c = c + c / 2 := by unfold capN; rw [if_neg (by omega), if_neg h1]
      rw [hc]
      by_cases h2 : 1 < c / 2
      · have h4 : (1 : Int32) < nI (c / 2) := nI_lt (a := 1) h2 (by omega)
        rw [if_pos h4, nI_add]
      · have h4 : ¬ (1 : Int32) < nI (c / 2) := nI_nlt (b := c / 2) (a := 1) (by omega) (by decide)
        rw [if_neg h4, show (1 : Int32) = nI 1 from rfl, nI_add]
        congr 1
        omega
  rw [e1]
  have h3 : capN c < 2147483640 ∧ 0 < capN c := by unfold capN; split <;> (try split) <;> omega
  refine ⟨fun q => nI_nle h3.2 (by omega) q, fun _ => ⟨fun q => ?_, fun _ => hq⟩⟩
  exact nI_nlt (b := capN c) (a := 2147483639) (by omega) (by decide) q
end
