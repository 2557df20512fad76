/-! numbers as lists of digits -/
def dg (B : Nat) : List Nat → Nat
  | [] => 0
  | x :: xs => x + B * dg B xs
theorem dg_lt {B : Nat} (hB : 0 < B) : ∀ (l : List Nat), (∀ x ∈ l, x < B) → dg B l < B ^ l.length
  | [], _ => by simp [dg]
  | x :: xs, h => by
    have h1 := dg_lt hB xs (fun y hy => h y (List.mem_cons_of_mem _ hy))
    have h2 := h x List.mem_cons_self
    have h3 : B * (dg B xs + 1) ≤ B * B ^ xs.length := Nat.mul_le_mul_left _ h1
    simp only [dg, List.length_cons, Nat.pow_succ]
    rw [Nat.mul_comm (B ^ xs.length) B]
    rw [Nat.mul_add, Nat.mul_one] at h3
    omega
theorem dg_zero {B : Nat} : ∀ (l : List Nat), (∀ x ∈ l, 0 < x) → (dg B l = 0 ↔ l = [])
  | [], _ => by simp [dg]
  | x :: xs, h => by
    have := h x List.mem_cons_self
    simp [dg]; omega
theorem dg_mod {B : Nat} (hB : 0 < B) {x : Nat} (xs : List Nat) (hx : x < B) : dg B (x :: xs) % B = x := by
  simp [dg, Nat.mod_eq_of_lt hx]
theorem dg_div {B : Nat} (hB : 0 < B) {x : Nat} (xs : List Nat) (hx : x < B) : dg B (x :: xs) / B = dg B xs := by
  simp only [dg]
  rw [Nat.add_mul_div_left _ _ hB, Nat.div_eq_of_lt hx, Nat.zero_add]
theorem dg_drop {B : Nat} (hB : 0 < B) : ∀ (p : Nat) (l : List Nat), (∀ x ∈ l, x < B) → dg B l / B ^ p = dg B (l.drop p)
  | 0, l, _ => by simp
  | p + 1, [], _ => by simp [dg]
  | p + 1, x :: xs, h => by
    rw [Nat.pow_succ, Nat.mul_comm, ← Nat.div_div_eq_div_mul, dg_div hB xs (h x List.mem_cons_self), dg_drop hB p xs (fun y hy => h y (List.mem_cons_of_mem _ hy))]
    rfl
theorem dg_take {B : Nat} (hB : 0 < B) : ∀ (p : Nat) (l : List Nat), (∀ x ∈ l, x < B) → dg B l % B ^ p = dg B (l.take p)
  | 0, l, _ => by simp [dg, Nat.mod_one]
  | p + 1, [], _ => by simp [dg]
  | p + 1, x :: xs, h => by
    have hx := h x List.mem_cons_self
    have ih := dg_take hB p xs (fun y hy => h y (List.mem_cons_of_mem _ hy))
    simp only [dg, List.take_succ_cons]
    rw [← ih, Nat.pow_succ, Nat.mul_comm (B ^ p) B, Nat.mod_mul, Nat.add_mul_mod_self_left, Nat.mod_eq_of_lt hx, Nat.add_mul_div_left _ _ hB, Nat.div_eq_of_lt hx, Nat.zero_add]
theorem dg_append {B : Nat} : ∀ (l m : List Nat), dg B (l ++ m) = dg B l + B ^ l.length * dg B m
  | [], m => by simp [dg]
  | x :: xs, m => by
    simp only [List.cons_append, dg, dg_append xs m, List.length_cons, Nat.pow_succ]
    rw [Nat.mul_add, ← Nat.mul_assoc, Nat.mul_comm B (B ^ xs.length)]
    omega
/-- a digit goes, the higher ones move down -/
theorem dg_erase {B : Nat} (hB : 0 < B) (p : Nat) (l : List Nat) (h : ∀ x ∈ l, x < B) (hp : p < l.length) : dg B l / B ^ (p + 1) * B ^ p + dg B l % B ^ p = dg B (l.eraseIdx p) := by
  rw [dg_drop hB _ _ h, dg_take hB _ _ h, List.eraseIdx_eq_take_drop_succ, dg_append, List.length_take, Nat.min_eq_left (Nat.le_of_lt hp), Nat.mul_comm]
  omega
theorem dg_erase_out {B : Nat} (hB : 0 < B) (p : Nat) (l : List Nat) (h : ∀ x ∈ l, x < B) (hp : l.length ≤ p) : dg B l / B ^ (p + 1) * B ^ p + dg B l % B ^ p = dg B l := by
  rw [dg_drop hB _ _ h, dg_take hB _ _ h, List.drop_eq_nil_of_le (by omega), List.take_of_length_le hp]
  simp [dg]
/-! longs: what the machine's shifts and masks are on numbers -/
theorem q_tb (n : Nat) : (lN n).toBitVec = BitVec.ofNat 64 n := rfl
theorem q_inj {a b : Int64} (h : a.toBitVec = b.toBitVec) : a = b := Int64.toBitVec_inj.mp h
theorem q_tn {n : Nat} (h : n < 2 ^ 64) : (lN n).toBitVec.toNat = n := by rw [q_tb, BitVec.toNat_ofNat, Nat.mod_eq_of_lt h]
theorem q_ext {x : Int64} {n : Nat} (hn : n < 2 ^ 64) (h : x.toBitVec.toNat = n) : x = lN n := by
  apply q_inj
  apply BitVec.eq_of_toNat_eq
  rw [h, q_tn hn]
theorem q_and {a b : Nat} (ha : a < 2 ^ 64) (hb : b < 2 ^ 64) : lN a &&& lN b = lN (a &&& b) := by
  refine q_ext (Nat.lt_of_le_of_lt Nat.and_le_left ha) ?_
  rw [Int64.toBitVec_and, BitVec.toNat_and, q_tn ha, q_tn hb]
theorem q_or {a b : Nat} (ha : a < 2 ^ 64) (hb : b < 2 ^ 64) : lN a ||| lN b = lN (a ||| b) := by
  refine q_ext (Nat.or_lt_two_pow ha hb) ?_
  rw [Int64.toBitVec_or, BitVec.toNat_or, q_tn ha, q_tn hb]
theorem q_mask {n k : Nat} (hn : n < 2 ^ 64) (hk : k < 64) : lN n &&& lN (2 ^ k - 1) = lN (n % 2 ^ k) := by
  have h2 : 2 ^ k < 2 ^ 64 := Nat.pow_lt_pow_right (by decide) hk
  rw [q_and hn (by omega), Nat.and_two_pow_sub_one_eq_mod]
theorem q_c : ∀ k, k < 64 → ((nI k).toInt64 &&& 63).toBitVec.smod 64 = BitVec.ofNat 64 k := by decide
theorem q_cu : ∀ k, k < 64 → ((nI k).toInt64.toUInt64 &&& Int64.toUInt64 63).toNat % 64 = k := by decide
theorem q_shl {n k : Nat} (hn : n * 2 ^ k < 2 ^ 64) (hk : k < 64) : lN n <<< ((nI k).toInt64 &&& 63) = lN (n * 2 ^ k) := by
  refine q_ext hn ?_
  show ((lN n).toBitVec <<< (((nI k).toInt64 &&& 63).toBitVec.smod 64)).toNat = _
  rw [q_c k hk]
  have hn2 : n < 2 ^ 64 := by
    have : 0 < 2 ^ k := Nat.two_pow_pos k
    have := Nat.le_mul_of_pos_right n this
    omega
  rw [BitVec.shiftLeft_eq', BitVec.toNat_shiftLeft, q_tn hn2, BitVec.toNat_ofNat, Nat.mod_eq_of_lt (by omega : k < 2 ^ 64), Nat.shiftLeft_eq, Nat.mod_eq_of_lt hn]
theorem q_shr {n k : Nat} (hn : n < 2 ^ 64) (hk : k < 64) : ((lN n).toUInt64 >>> ((nI k).toInt64.toUInt64 &&& Int64.toUInt64 63)).toInt64 = lN (n / 2 ^ k) := by
  refine q_ext (Nat.lt_of_le_of_lt (Nat.div_le_self _ _) hn) ?_
  have e := q_cu k hk
  generalize ((nI k).toInt64.toUInt64 &&& Int64.toUInt64 63) = y at e ⊢
  show ((lN n).toUInt64 >>> y).toNat = _
  rw [UInt64.toNat_shiftRight, e, Nat.shiftRight_eq_div_pow]
  show (lN n).toBitVec.toNat / _ = _
  rw [q_tn hn]
theorem q_sub1 {n : Nat} (h : 0 < n) : lN n - 1 = lN (n - 1) := by
  show lN n - lN 1 = _
  exact lN_sub h
theorem q_or_dj {k a b : Nat} (ha : a < 2 ^ k) (hb : b * 2 ^ k < 2 ^ 64) (hk : k < 64) : lN (b * 2 ^ k) ||| lN a = lN (b * 2 ^ k + a) := by
  have h2 : 2 ^ k < 2 ^ 64 := Nat.pow_lt_pow_right (by decide) hk
  rw [q_or hb (by omega)]
  congr 1
  rw [Nat.mul_comm, Nat.two_pow_add_eq_or_of_lt ha]
theorem q_or_dj' {k a b : Nat} (ha : a < 2 ^ k) (hb : b * 2 ^ k < 2 ^ 64) (hk : k < 64) : lN a ||| lN (b * 2 ^ k) = lN (b * 2 ^ k + a) := by
  rw [← q_or_dj ha hb hk]
  apply q_inj
  rw [Int64.toBitVec_or, Int64.toBitVec_or, BitVec.or_comm]
