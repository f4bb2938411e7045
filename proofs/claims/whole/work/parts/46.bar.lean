section
theorem bt_pos : ∀ g, g < 4 → ∀ o, o < 4 → (((nI g * 4) + nI o) &&& 31) = nI (4 * g + o) := by decide
theorem bt_one : ∀ n, n < 16 → ∀ p, p < 16 → ((1 : Int32) <<< nI n).toBitVec.getLsbD p = decide (p = n) := by decide
theorem bt_all : ∀ p, p < 16 → (-1 : Int32).toBitVec.getLsbD p = true := by decide
theorem bt_sm : ∀ n, n < 16 → (nI n).toBitVec.smod 32 = BitVec.ofNat 32 n := by decide
theorem bt_get (b : Int32) (n : Nat) (hn : n < 16) : (b >>> nI n) &&& 1 = 1 ↔ b.toBitVec.getLsbD n = true := by
  rw [← Int32.toBitVec_inj, Int32.toBitVec_and, Int32.toBitVec_shiftRight, bt_sm n hn]
  have e : (1 : Int32).toBitVec = 1#32 := rfl
  have e2 : (BitVec.ofNat 32 n).toNat = n := by rw [BitVec.toNat_ofNat]; exact Nat.mod_eq_of_lt (by omega)
  rw [e, BitVec.and_one_eq_setWidth_ofBool_getLsbD]
  have e3 : (b.toBitVec.sshiftRight' (BitVec.ofNat 32 n)).getLsbD 0 = b.toBitVec.getLsbD n := by
    show (b.toBitVec.sshiftRight (BitVec.ofNat 32 n).toNat).getLsbD 0 = _
    rw [e2, BitVec.getLsbD_sshiftRight]
    simp
    omega
  rw [e3]
  cases b.toBitVec.getLsbD n <;> decide
theorem bt_b (b : Int32) (g o : Nat) (hg : g < 4) (ho : o < 4) : isB b g o ↔ b.toBitVec.getLsbD (4 * g + o) = true := by
  unfold isB; rw [bt_pos g hg o ho]; exact bt_get b _ (by omega)
theorem bt_or (b : Int32) (n p q : Nat) (hn : n < 16) (hp : p < 16) (hq : q < 16) : (b ||| ((1 <<< nI p) ||| (1 <<< nI q))).toBitVec.getLsbD n = (b.toBitVec.getLsbD n || decide (n = p) || decide (n = q)) := by
  rw [Int32.toBitVec_or, Int32.toBitVec_or, BitVec.getLsbD_or, BitVec.getLsbD_or, bt_one p hp n hn, bt_one q hq n hn, Bool.or_assoc]
theorem bt_an (b : Int32) (n p q : Nat) (hn : n < 16) (hp : p < 16) (hq : q < 16) : (b &&& (((1 <<< nI p) ||| (1 <<< nI q)) ^^^ (-1))).toBitVec.getLsbD n = (b.toBitVec.getLsbD n && !(decide (n = p) || decide (n = q))) := by
  rw [Int32.toBitVec_and, Int32.toBitVec_xor, Int32.toBitVec_or, BitVec.getLsbD_and, BitVec.getLsbD_xor, BitVec.getLsbD_or, bt_one p hp n hn, bt_one q hq n hn, bt_all n hn, Bool.xor_true]
/-- the bars with (g,o) and (o,g) set to x -/
def bars (b : Int32) (g o : Nat) (x : Int32) : Int32 := if x = 0 then b &&& (((1 <<< nI (4 * g + o)) ||| (1 <<< nI (4 * o + g))) ^^^ (-1)) else b ||| ((1 <<< nI (4 * g + o)) ||| (1 <<< nI (4 * o + g)))
theorem bars_b (b x : Int32) (hx : bit x) (g o g' o' : Nat) (hg : g < 4) (ho : o < 4) (hg' : g' < 4) (ho' : o' < 4) : isB (bars b g o x) g' o' ↔ if 4 * g' + o' = 4 * g + o ∨ 4 * g' + o' = 4 * o + g then x = 1 else isB b g' o' := by
  rw [bt_b _ _ _ hg' ho', bt_b _ _ _ hg' ho']
  unfold bars
  rcases hx with rfl | rfl
  · rw [if_pos rfl, bt_an _ _ _ _ (by omega) (by omega) (by omega)]
    by_cases q1 : 4 * g' + o' = 4 * g + o
    · simp [q1]
    · by_cases q2 : 4 * g' + o' = 4 * o + g
      · simp [q2]
      · simp [q1, q2]
  · rw [if_neg (by decide), bt_or _ _ _ _ (by omega) (by omega) (by omega)]
    by_cases q1 : 4 * g' + o' = 4 * g + o
    · simp [q1]
    · by_cases q2 : 4 * g' + o' = 4 * o + g
      · simp [q2]
      · simp [q1, q2]
end
