/-! ===== masks by their bits (bt and its b_ rows: out of kit/laws/BITS) ===== -/
def bt (x : Int32) (i : Nat) : Bool := x.toBitVec.getLsbD i
theorem b_or (x y : Int32) (i : Nat) : bt (x ||| y) i = (bt x i || bt y i) := by unfold bt; rw [Int32.toBitVec_or, BitVec.getLsbD_or]
theorem b_0 (i : Nat) : bt 0 i = false := BitVec.getLsbD_zero
theorem s_l : ∀ n, n < 32 → ((nI n &&& 31).toBitVec.smod 32).toNat = n := by decide +kernel
theorem b_shl (n : Nat) (hn : n < 32) (x : Int32) {i : Nat} (hi : i < 32) : bt (x <<< (nI n &&& 31)) i = (decide (n ≤ i) && bt x (i - n)) := by
  unfold bt
  rw [Int32.toBitVec_shiftLeft]
  show (x.toBitVec <<< ((nI n &&& 31).toBitVec.smod 32).toNat).getLsbD i = _
  rw [s_l n hn, BitVec.getLsbD_shiftLeft]
  rcases Nat.lt_or_ge i n with h | h
  · simp [h, Nat.not_le.mpr h]
  · simp [hi, h, Nat.not_lt.mpr h]
theorem b_sshr (n : Nat) (hn : n < 32) (x : Int32) {i : Nat} (hi : i < 32) : bt (x >>> (nI n &&& 31)) i = if n + i < 32 then bt x (n + i) else bt x 31 := by
  unfold bt
  rw [Int32.toBitVec_shiftRight]
  show (x.toBitVec.sshiftRight ((nI n &&& 31).toBitVec.smod 32).toNat).getLsbD i = _
  rw [s_l n hn, BitVec.getLsbD_sshiftRight, BitVec.msb_eq_getLsbD_last]
  simp [hi]
theorem b_1 : ∀ i, i < 32 → bt 1 i = decide (i = 0) := by decide +kernel
theorem b_low (y : Int32) : y &&& 1 = 1 ↔ bt y 0 = true := by
  rw [pk_and y (m := 1) 1 rfl]
  have e : bt y 0 = decide (y.toBitVec.toNat % 2 = 1) := by
    unfold bt
    rw [BitVec.getLsbD, Nat.testBit_zero]
  rw [e, decide_eq_true_iff]
  rcases Nat.mod_two_eq_zero_or_one y.toBitVec.toNat with h | h
  · rw [show 2 ^ 1 = 2 from rfl, h]; decide
  · rw [show 2 ^ 1 = 2 from rfl, h]; decide
theorem b_tst (m : Int32) {q : Nat} (hq : q < 32) : (m >>> (nI q &&& 31)) &&& 1 = 1 ↔ bt m q = true := by
  rw [b_low, b_sshr q hq m (by decide), Nat.add_zero, if_pos hq]
theorem b_set (m : Int32) {q j : Nat} (hq : q < 32) (hj : j < 32) : bt (m ||| (1 <<< (nI q &&& 31))) j = (bt m j || decide (j = q)) := by
  rw [b_or, b_shl q hq 1 hj, b_1 _ (by omega)]
  congr 1
  by_cases e : j = q
  · subst e; simp
  · rw [decide_eq_false e]
    rcases Nat.lt_or_ge j q with h | h
    · rw [decide_eq_false (by omega), Bool.false_and]
    · rw [decide_eq_false (show ¬ j - q = 0 by omega), Bool.and_false]
/-- the mask m has just the numbers of P below 32 -/
def BM (m : Int32) (P : Nat → Prop) : Prop := ∀ q, q < 32 → (bt m q = true ↔ P q)
theorem BM.zero {P : Nat → Prop} (h : ∀ q, ¬ P q) : BM 0 P := fun q _ => by
  rw [b_0]; exact ⟨fun e => (by cases e), fun e => absurd e (h q)⟩
theorem BM.tst {m : Int32} {P : Nat → Prop} (h : BM m P) {q : Nat} (hq : q < 32) : (m >>> (nI q &&& 31)) &&& 1 = 1 ↔ P q := by rw [b_tst m hq, h q hq]
theorem BM.set {m : Int32} {P Q : Nat → Prop} (h : BM m P) {q : Nat} (hq : q < 32) (hQ : ∀ j, Q j ↔ P j ∨ j = q) : BM (m ||| (1 <<< (nI q &&& 31))) Q := fun j hj => by
  rw [b_set m hq hj, Bool.or_eq_true, decide_eq_true_iff, h j hj, hQ]
theorem BM.same {m : Int32} {P Q : Nat → Prop} (h : BM m P) (hQ : ∀ j, Q j ↔ P j) : BM (m ||| 0) Q := fun j hj => by
  rw [b_or, b_0, Bool.or_false, h j hj, hQ]
theorem bt_nI {K k : Nat} (hk : k < 32) : bt (nI K) k = K.testBit k := by
  unfold bt
  show (BitVec.ofNat 32 K).getLsbD k = _
  rw [BitVec.getLsbD_ofNat]
  simp [hk]

