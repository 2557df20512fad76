/-! counting bits -/
theorem cntF_add (p : Nat → Bool) : ∀ (a f i : Nat), cntF p (a + f) i = cntF p a i + cntF p f (i + a)
  | 0, f, i => by simp [cntF]
  | a + 1, f, i => by
    rw [show a + 1 + f = (a + f) + 1 by omega, cntF, cntF, cntF_add p a f (i + 1), show i + 1 + a = i + (a + 1) by omega]
    omega
theorem cntF_shift (p : Nat → Bool) (s : Nat) : ∀ (f i : Nat), cntF p f (i + s) = cntF (fun j => p (j + s)) f i
  | 0, _ => rfl
  | f + 1, i => by
    rw [cntF, cntF, show i + s + 1 = (i + 1) + s by omega, cntF_shift p s f (i + 1)]
theorem cntF_cong {p q : Nat → Bool} : ∀ (f i : Nat), (∀ j, i ≤ j → j < i + f → p j = q j) → cntF p f i = cntF q f i
  | 0, _, _ => rfl
  | f + 1, i, h => by
    rw [cntF, cntF, h i (by omega) (by omega), cntF_cong f (i + 1) (fun j h1 h2 => h j (by omega) (by omega))]
theorem cntF_0 {p : Nat → Bool} : ∀ (f i : Nat), (∀ j, i ≤ j → j < i + f → p j = false) → cntF p f i = 0
  | 0, _, _ => rfl
  | f + 1, i, h => by
    rw [cntF, h i (by omega) (by omega), cntF_0 f (i + 1) (fun j h1 h2 => h j (by omega) (by omega))]; rfl
def pop (m : Nat) : Nat := cntF (fun j => m.testBit j) 64 0
theorem pop_lane {a b : Nat} (ha : a < 256) (hb : b < 2 ^ 56) : pop (a + 256 * b) = cntF (fun j => a.testBit j) 8 0 + pop b := by
  unfold pop
  rw [cntF_add _ 8 56 0]
  have e1 : cntF (fun j => (a + 256 * b).testBit j) 8 0 = cntF (fun j => a.testBit j) 8 0 := by
    refine cntF_cong _ _ (fun j _ h2 => ?_)
    have : a + 256 * b = 2 ^ 8 * b + a := by omega
    rw [this, Nat.testBit_two_pow_mul_add _ (by omega : a < 2 ^ 8), if_pos (by omega)]
  have e2 : cntF (fun j => (a + 256 * b).testBit j) 56 (0 + 8) = cntF (fun j => b.testBit j) 56 0 := by
    rw [cntF_shift]
    refine cntF_cong _ _ (fun j _ h2 => ?_)
    have : a + 256 * b = 2 ^ 8 * b + a := by omega
    rw [this, Nat.testBit_two_pow_mul_add _ (by omega : a < 2 ^ 8), if_neg (by omega)]
    congr 1
  have e3 : cntF (fun j => b.testBit j) 64 0 = cntF (fun j => b.testBit j) 56 0 := by
    rw [cntF_add _ 56 8 0, cntF_0 8 (0 + 56) (fun j h1 _ => ?_)]
    · omega
    · exact Nat.testBit_lt_two_pow (Nat.lt_of_lt_of_le hb (Nat.pow_le_pow_right (by decide) (by omega)))
  rw [e1, e2, e3]
theorem and_lane {a b m n : Nat} (ha : a < 256) (hm : m < 256) : (a + 256 * b) &&& (m + 256 * n) = (a &&& m) + 256 * (b &&& n) := by
  have h1 : ((a + 256 * b) &&& (m + 256 * n)) % 2 ^ 8 = a &&& m := by
    rw [Nat.and_mod_two_pow]; congr 1 <;> omega
  have h2 : ((a + 256 * b) &&& (m + 256 * n)) / 2 ^ 8 = b &&& n := by
    rw [Nat.and_div_two_pow]; congr 1 <;> omega
  omega
def mkL (c : Nat) : Nat → Nat
  | 0 => 0
  | k + 1 => c + 256 * mkL c k
theorem mkL_s (c k : Nat) : mkL c (k + 1) = c + 256 * mkL c k := rfl
def pN1 (k x : Nat) : Nat := x - (x / 2 &&& mkL 0x55 k)
def pN2 (k x : Nat) : Nat := (x &&& mkL 0x33 k) + (x / 4 &&& mkL 0x33 k)
def pN3 (k x : Nat) : Nat := (x + x / 16) &&& mkL 0x0f k
set_option maxRecDepth 100000 in
theorem pb1 : ∀ a, a < 256 → ∀ r, r < 2 → (a / 2 + 128 * r) &&& 0x55 = (a / 2) &&& 0x55 := by decide
set_option maxRecDepth 100000 in
theorem pb2 : ∀ a, a < 256 → ∀ r, r < 4 → (a / 4 + 64 * r) &&& 0x33 = (a / 4) &&& 0x33 := by decide
theorem pb3 (z r : Nat) : (z + 16 * r) &&& 0x0f = z &&& 0x0f := by
  have h := Nat.and_two_pow_sub_one_eq_mod (z + 16 * r) 4
  have h' := Nat.and_two_pow_sub_one_eq_mod z 4
  simp only [Nat.reducePow, Nat.reduceSub] at h h'
  rw [show (0x0f : Nat) = 15 from rfl, h, h']
  omega
def q1 (a : Nat) : Nat := a - (a / 2 &&& 0x55)
def q2 (a : Nat) : Nat := (a &&& 0x33) + (a / 4 &&& 0x33)
def q3 (a : Nat) : Nat := (a + a / 16) &&& 0x0f
theorem pN1_lane (k : Nat) {a b : Nat} (ha : a < 256) : pN1 (k + 1) (a + 256 * b) = q1 a + 256 * pN1 k b := by
  unfold pN1 q1
  rw [mkL_s]
  have e : (a + 256 * b) / 2 = (a / 2 + 128 * (b % 2)) + 256 * (b / 2) := by omega
  rw [e, and_lane (by omega) (by decide), pb1 a ha _ (Nat.mod_lt _ (by decide))]
  have h1 : a / 2 &&& 0x55 ≤ a / 2 := Nat.and_le_left
  have h2 : b / 2 &&& mkL 0x55 k ≤ b / 2 := Nat.and_le_left
  omega
theorem pN2_lane (k : Nat) {a b : Nat} (ha : a < 256) : pN2 (k + 1) (a + 256 * b) = q2 a + 256 * pN2 k b := by
  unfold pN2 q2
  rw [mkL_s]
  have e : (a + 256 * b) / 4 = (a / 4 + 64 * (b % 4)) + 256 * (b / 4) := by omega
  rw [e, and_lane ha (by decide), and_lane (by omega) (by decide), pb2 a ha _ (Nat.mod_lt _ (by decide))]
  omega
theorem pN3_lane (k : Nat) {a b : Nat} (ha : a ≤ 68) (hb : b % 16 ≤ 4) : pN3 (k + 1) (a + 256 * b) = q3 a + 256 * pN3 k b := by
  unfold pN3 q3
  rw [mkL_s]
  have e : a + 256 * b + (a + 256 * b) / 16 = (a + a / 16 + 16 * (b % 16)) + 256 * (b + b / 16) := by omega
  rw [e, and_lane (by omega) (by decide), pb3]
set_option maxRecDepth 100000 in
theorem q12_ok : ∀ a, a < 256 → q1 a < 256 ∧ q2 (q1 a) ≤ 68 ∧ q2 (q1 a) % 16 ≤ 4 ∧ q3 (q2 (q1 a)) = cntF (fun j => a.testBit j) 8 0 ∧ q3 (q2 (q1 a)) ≤ 8 := by decide +kernel
def pNN (k x : Nat) : Nat := pN3 k (pN2 k (pN1 k x))
theorem pNN_low (k : Nat) {x : Nat} : pN2 (k + 1) (pN1 (k + 1) x) % 16 ≤ 4 := by
  have h : x = x % 256 + 256 * (x / 256) := by omega
  rw [h, pN1_lane k (by omega), pN2_lane k (q12_ok (x % 256) (by omega)).1]
  have := (q12_ok (x % 256) (by omega)).2.2.1
  omega
theorem pNN_lane (k : Nat) {a b : Nat} (ha : a < 256) : pNN (k + 2) (a + 256 * b) = cntF (fun j => a.testBit j) 8 0 + 256 * pNN (k + 1) b := by
  obtain ⟨h1, h2, h3, h4, h5⟩ := q12_ok a ha
  unfold pNN
  rw [pN1_lane _ ha, pN2_lane _ h1, pN3_lane _ h2 (pNN_low k), h4]
theorem pNN_zero (k : Nat) : pNN k 0 = 0 := by
  simp [pNN, pN3, pN2, pN1]
theorem lane5 {x : Nat} (hx : x < 2 ^ 40) : ∃ y0 y1 y2 y3 y4, y0 < 256 ∧ y1 < 256 ∧ y2 < 256 ∧ y3 < 256 ∧ y4 < 256 ∧ x = y0 + 256 * (y1 + 256 * (y2 + 256 * (y3 + 256 * (y4 + 256 * 0)))) :=
  ⟨x % 256, x / 256 % 256, x / 65536 % 256, x / 16777216 % 256, x / 4294967296 % 256, by omega, by omega, by omega, by omega, by omega, by omega⟩
theorem pop_zero : pop 0 = 0 := by decide
/-- the sum of the bytes, in the lowest byte -/
theorem pop_sum {x : Nat} (hx : x < 2 ^ 40) : ∃ s, s = pNN 8 x ∧ s < 2 ^ 40 ∧ ((s + s / 256) + (s + s / 256) / 65536 + ((s + s / 256) + (s + s / 256) / 65536) / 4294967296) % 128 = pop x ∧ pop x ≤ 40 := by
  obtain ⟨y0, y1, y2, y3, y4, h0, h1, h2, h3, h4, rfl⟩ := lane5 hx
  refine ⟨_, rfl, ?_⟩
  rw [pop_lane h0 (by omega), pop_lane h1 (by omega), pop_lane h2 (by omega), pop_lane h3 (by omega), pop_lane h4 (by omega), pop_zero,
    pNN_lane 6 h0, pNN_lane 5 h1, pNN_lane 4 h2, pNN_lane 3 h3, pNN_lane 2 h4, pNN_zero]
  have c0 := cntF_le (fun j => y0.testBit j) 8 0
  have c1 := cntF_le (fun j => y1.testBit j) 8 0
  have c2 := cntF_le (fun j => y2.testBit j) 8 0
  have c3 := cntF_le (fun j => y3.testBit j) 8 0
  have c4 := cntF_le (fun j => y4.testBit j) 8 0
  generalize cntF (fun j => y0.testBit j) 8 0 = z0 at *
  generalize cntF (fun j => y1.testBit j) 8 0 = z1 at *
  generalize cntF (fun j => y2.testBit j) 8 0 = z2 at *
  generalize cntF (fun j => y3.testBit j) 8 0 = z3 at *
  generalize cntF (fun j => y4.testBit j) 8 0 = z4 at *
  have e1 : (z0 + 256 * (z1 + 256 * (z2 + 256 * (z3 + 256 * (z4 + 256 * 0))))) / 256 = z1 + 256 * (z2 + 256 * (z3 + 256 * z4)) := by omega
  rw [e1]
  have e2 : z0 + 256 * (z1 + 256 * (z2 + 256 * (z3 + 256 * (z4 + 256 * 0)))) + (z1 + 256 * (z2 + 256 * (z3 + 256 * z4))) = (z0 + z1) + 256 * (z1 + z2) + 65536 * ((z2 + z3) + 256 * (z3 + z4) + 65536 * z4) := by omega
  rw [e2]
  have e3 : ((z0 + z1) + 256 * (z1 + z2) + 65536 * ((z2 + z3) + 256 * (z3 + z4) + 65536 * z4)) / 65536 = (z2 + z3) + 256 * (z3 + z4) + 65536 * z4 := by omega
  rw [e3]
  have e4 : ((z0 + z1) + 256 * (z1 + z2) + 65536 * ((z2 + z3) + 256 * (z3 + z4) + 65536 * z4) + ((z2 + z3) + 256 * (z3 + z4) + 65536 * z4)) / 4294967296 = z4 := by omega
  rw [e4]
  refine ⟨?_, ?_, ?_⟩ <;> omega

theorem mk55 : (6148914691236517205 : Int64) = lN (mkL 0x55 8) := by decide
theorem mk33 : (3689348814741910323 : Int64) = lN (mkL 0x33 8) := by decide
theorem mk0f : (1085102592571150095 : Int64) = lN (mkL 0x0f 8) := by decide
theorem pN1_le (k x : Nat) : pN1 k x ≤ x := Nat.sub_le _ _
theorem pN2_le (k x : Nat) : pN2 k x ≤ 2 * x := by
  unfold pN2
  have h1 : x &&& mkL 0x33 k ≤ x := Nat.and_le_left
  have h2 : x / 4 &&& mkL 0x33 k ≤ x / 4 := Nat.and_le_left
  omega
set_option maxRecDepth 100000 in
set_option maxHeartbeats 4000000 in
theorem cJ_bitCountL (d : Nat) (h : x_H) (x : Nat) (hx : x < 2 ^ 40) : x_Ct d mJ13_bitCount_95d88 [.long (lN x)] h (fun r h' => r = some (.int (nI (pop x))) ∧ h' = h) := by
  obtain ⟨s, hs, hs40, hsum, hp40⟩ := pop_sum hx
  have b1 := pN1_le 8 x
  have b2 := pN2_le 8 (pN1 8 x)
  refine x_enter pnJ13_bitCount_95d88 (Nat.le_of_ble_eq_true rfl) ?_
  refine x_lload_n (i := 0) dJ13_bitCount_95d88_0 rfl rfl ?_
  refine x_lload_n (i := 0) dJ13_bitCount_95d88_1 rfl rfl ?_
  refine x_iconst (v := 1) dJ13_bitCount_95d88_2 (by decide) ?_
  refine x_lushr dJ13_bitCount_95d88_3 ?_
  refine x_ldc2 cnJ13_314 dJ13_bitCount_95d88_4 ?_
  refine x_land dJ13_bitCount_95d88_7 ?_
  refine x_lsub dJ13_bitCount_95d88_8 ?_
  refine x_topl (y := lN (pN1 8 x)) ?_ ?_
  · have e1 : ((lN x).toUInt64 >>> ((1 : Int32).toInt64.toUInt64 &&& Int64.toUInt64 63)).toInt64 = lN (x / 2 ^ 1) := q_shr (k := 1) (by omega) (by decide)
    rw [e1, mk55, l_and]
    have : x / 2 ^ 1 &&& mkL 0x55 8 ≤ x / 2 ^ 1 := Nat.and_le_left
    exact lN_sub (by omega)
  refine x_lstore_n (i := 0) dJ13_bitCount_95d88_9 rfl (by decide) ?_
  refine x_lload_n (i := 0) dJ13_bitCount_95d88_10 rfl rfl ?_
  refine x_ldc2 cnJ13_316 dJ13_bitCount_95d88_11 ?_
  refine x_land dJ13_bitCount_95d88_14 ?_
  refine x_lload_n (i := 0) dJ13_bitCount_95d88_15 rfl rfl ?_
  refine x_iconst (v := 2) dJ13_bitCount_95d88_16 (by decide) ?_
  refine x_lushr dJ13_bitCount_95d88_17 ?_
  refine x_ldc2 cnJ13_316 dJ13_bitCount_95d88_18 ?_
  refine x_land dJ13_bitCount_95d88_21 ?_
  refine x_ladd dJ13_bitCount_95d88_22 ?_
  refine x_topl (y := lN (pN2 8 (pN1 8 x))) ?_ ?_
  · have e1 : ((lN (pN1 8 x)).toUInt64 >>> ((2 : Int32).toInt64.toUInt64 &&& Int64.toUInt64 63)).toInt64 = lN (pN1 8 x / 2 ^ 2) := q_shr (k := 2) (by omega) (by decide)
    rw [e1, mk33, l_and, l_and, lN_add]; rfl
  refine x_lstore_n (i := 0) dJ13_bitCount_95d88_23 rfl (by decide) ?_
  refine x_lload_n (i := 0) dJ13_bitCount_95d88_24 rfl rfl ?_
  refine x_lload_n (i := 0) dJ13_bitCount_95d88_25 rfl rfl ?_
  refine x_iconst (v := 4) dJ13_bitCount_95d88_26 (by decide) ?_
  refine x_lushr dJ13_bitCount_95d88_27 ?_
  refine x_ladd dJ13_bitCount_95d88_28 ?_
  refine x_ldc2 cnJ13_318 dJ13_bitCount_95d88_29 ?_
  refine x_land dJ13_bitCount_95d88_32 ?_
  refine x_topl (y := lN s) ?_ ?_
  · have e1 : ((lN (pN2 8 (pN1 8 x))).toUInt64 >>> ((4 : Int32).toInt64.toUInt64 &&& Int64.toUInt64 63)).toInt64 = lN (pN2 8 (pN1 8 x) / 2 ^ 4) := q_shr (k := 4) (by omega) (by decide)
    rw [e1, mk0f, lN_add, l_and, hs]; rfl
  refine x_lstore_n (i := 0) dJ13_bitCount_95d88_33 rfl (by decide) ?_
  refine x_lload_n (i := 0) dJ13_bitCount_95d88_34 rfl rfl ?_
  refine x_lload_n (i := 0) dJ13_bitCount_95d88_35 rfl rfl ?_
  refine x_bipush (v := 8) dJ13_bitCount_95d88_36 (by decide) ?_
  refine x_lushr dJ13_bitCount_95d88_38 ?_
  refine x_ladd dJ13_bitCount_95d88_39 ?_
  refine x_topl (y := lN (s + s / 256)) ?_ ?_
  · have e1 : ((lN s).toUInt64 >>> ((8 : Int32).toInt64.toUInt64 &&& Int64.toUInt64 63)).toInt64 = lN (s / 2 ^ 8) := q_shr (k := 8) (by omega) (by decide)
    rw [e1, lN_add]
  refine x_lstore_n (i := 0) dJ13_bitCount_95d88_40 rfl (by decide) ?_
  refine x_lload_n (i := 0) dJ13_bitCount_95d88_41 rfl rfl ?_
  refine x_lload_n (i := 0) dJ13_bitCount_95d88_42 rfl rfl ?_
  refine x_bipush (v := 16) dJ13_bitCount_95d88_43 (by decide) ?_
  refine x_lushr dJ13_bitCount_95d88_45 ?_
  refine x_ladd dJ13_bitCount_95d88_46 ?_
  have hs4 : s + s / 256 < 2 ^ 42 := by omega
  generalize s + s / 256 = s4 at hsum hs4 ⊢
  refine x_topl (y := lN (s4 + s4 / 65536)) ?_ ?_
  · have e1 : ((lN s4).toUInt64 >>> ((16 : Int32).toInt64.toUInt64 &&& Int64.toUInt64 63)).toInt64 = lN (s4 / 2 ^ 16) := q_shr (k := 16) (by omega) (by decide)
    rw [e1, lN_add]
  refine x_lstore_n (i := 0) dJ13_bitCount_95d88_47 rfl (by decide) ?_
  refine x_lload_n (i := 0) dJ13_bitCount_95d88_48 rfl rfl ?_
  refine x_lload_n (i := 0) dJ13_bitCount_95d88_49 rfl rfl ?_
  refine x_bipush (v := 32) dJ13_bitCount_95d88_50 (by decide) ?_
  refine x_lushr dJ13_bitCount_95d88_52 ?_
  refine x_ladd dJ13_bitCount_95d88_53 ?_
  have hs5 : s4 + s4 / 65536 < 2 ^ 43 := by omega
  generalize s4 + s4 / 65536 = s5 at hsum hs5 ⊢
  refine x_topl (y := lN (s5 + s5 / 4294967296)) ?_ ?_
  · have e1 : ((lN s5).toUInt64 >>> ((32 : Int32).toInt64.toUInt64 &&& Int64.toUInt64 63)).toInt64 = lN (s5 / 2 ^ 32) := q_shr (k := 32) (by omega) (by decide)
    rw [e1, lN_add]
  refine x_lstore_n (i := 0) dJ13_bitCount_95d88_54 rfl (by decide) ?_
  refine x_lload_n (i := 0) dJ13_bitCount_95d88_55 rfl rfl ?_
  refine x_l2i dJ13_bitCount_95d88_56 ?_
  refine x_bipush (v := 127) dJ13_bitCount_95d88_57 (by decide) ?_
  refine x_iand dJ13_bitCount_95d88_59 ?_
  refine x_topi (y := nI (pop x)) ?_ ?_
  · rw [lN_toI]
    have := n_and (s5 + s5 / 4294967296) 127
    have h7 := Nat.and_two_pow_sub_one_eq_mod (s5 + s5 / 4294967296) 7
    simp only [Nat.reducePow, Nat.reduceSub] at h7
    rw [h7, hsum] at this
    exact this
  refine x_iret dJ13_bitCount_95d88_60 rfl ⟨rfl, rfl⟩
theorem pop_sum2 {x : Nat} (hx : x < 2 ^ 16) : ∃ s, s = pNN 4 x ∧ s < 2 ^ 16 ∧ ((s + s / 256) + (s + s / 256) / 65536) % 64 = pop x ∧ pop x ≤ 16 := by
  obtain ⟨y0, y1, h0, h1, rfl⟩ : ∃ y0 y1, y0 < 256 ∧ y1 < 256 ∧ x = y0 + 256 * (y1 + 256 * 0) := ⟨x % 256, x / 256 % 256, by omega, by omega, by omega⟩
  refine ⟨_, rfl, ?_⟩
  rw [pop_lane h0 (by omega), pop_lane h1 (by omega), pop_zero, pNN_lane 2 h0, pNN_lane 1 h1, pNN_zero]
  have c0 := cntF_le (fun j => y0.testBit j) 8 0
  have c1 := cntF_le (fun j => y1.testBit j) 8 0
  generalize cntF (fun j => y0.testBit j) 8 0 = z0 at *
  generalize cntF (fun j => y1.testBit j) 8 0 = z1 at *
  have e1 : (z0 + 256 * (z1 + 256 * 0)) / 256 = z1 := by omega
  rw [e1]
  have e2 : (z0 + 256 * (z1 + 256 * 0) + z1) / 65536 = 0 := by omega
  rw [e2]
  refine ⟨?_, ?_, ?_⟩ <;> omega
theorem nk55 : (1431655765 : Int32) = nI (mkL 0x55 4) := by decide
theorem nk33 : (858993459 : Int32) = nI (mkL 0x33 4) := by decide
theorem nk0f : (252645135 : Int32) = nI (mkL 0x0f 4) := by decide
theorem n_shr {n : Nat} (hn : n < 2 ^ 32) {k : Nat} (hk : k < 32) : ((nI n).toUInt32 >>> ((nI k).toUInt32 &&& Int32.toUInt32 31)).toInt32 = nI (n / 2 ^ k) := pk_ushrN hn (nI k) k ((show ∀ p, p < 32 → (((nI p).toUInt32 &&& Int32.toUInt32 31).toBitVec % 32).toNat = p by decide) k hk)
set_option maxRecDepth 100000 in
set_option maxHeartbeats 4000000 in
theorem cJ_bitCountI (d : Nat) (h : x_H) (x : Nat) (hx : x < 2 ^ 16) : x_Ct d mJ6_bitCount_0f7a4 [.int (nI x)] h (fun r h' => r = some (.int (nI (pop x))) ∧ h' = h) := by
  obtain ⟨s, hs, hs16, hsum, hp⟩ := pop_sum2 hx
  have b1 := pN1_le 4 x
  have b2 := pN2_le 4 (pN1 4 x)
  refine x_enter pnJ6_bitCount_0f7a4 (Nat.le_of_ble_eq_true rfl) ?_
  refine x_iload_n (i := 0) dJ6_bitCount_0f7a4_0 rfl rfl ?_
  refine x_iload_n (i := 0) dJ6_bitCount_0f7a4_1 rfl rfl ?_
  refine x_iconst (v := 1) dJ6_bitCount_0f7a4_2 (by decide) ?_
  refine x_iushr dJ6_bitCount_0f7a4_3 ?_
  refine x_ldcw cnJ6_265 dJ6_bitCount_0f7a4_4 ?_
  refine x_iand dJ6_bitCount_0f7a4_7 ?_
  refine x_isub dJ6_bitCount_0f7a4_8 ?_
  refine x_topi (y := nI (pN1 4 x)) ?_ ?_
  · have e1 : ((nI x).toUInt32 >>> ((1 : Int32).toUInt32 &&& Int32.toUInt32 31)).toInt32 = nI (x / 2 ^ 1) := n_shr (k := 1) (by omega) (by decide)
    rw [e1, nk55, n_and]
    have : x / 2 ^ 1 &&& mkL 0x55 4 ≤ x / 2 ^ 1 := Nat.and_le_left
    exact pk_sub (by omega)
  refine x_istore_n (i := 0) dJ6_bitCount_0f7a4_9 rfl (by decide) ?_
  refine x_iload_n (i := 0) dJ6_bitCount_0f7a4_10 rfl rfl ?_
  refine x_ldcw cnJ6_266 dJ6_bitCount_0f7a4_11 ?_
  refine x_iand dJ6_bitCount_0f7a4_14 ?_
  refine x_iload_n (i := 0) dJ6_bitCount_0f7a4_15 rfl rfl ?_
  refine x_iconst (v := 2) dJ6_bitCount_0f7a4_16 (by decide) ?_
  refine x_iushr dJ6_bitCount_0f7a4_17 ?_
  refine x_ldcw cnJ6_266 dJ6_bitCount_0f7a4_18 ?_
  refine x_iand dJ6_bitCount_0f7a4_21 ?_
  refine x_iadd dJ6_bitCount_0f7a4_22 ?_
  refine x_topi (y := nI (pN2 4 (pN1 4 x))) ?_ ?_
  · have e1 : ((nI (pN1 4 x)).toUInt32 >>> ((2 : Int32).toUInt32 &&& Int32.toUInt32 31)).toInt32 = nI (pN1 4 x / 2 ^ 2) := n_shr (k := 2) (by omega) (by decide)
    rw [e1, nk33, n_and, n_and, nI_add]; rfl
  refine x_istore_n (i := 0) dJ6_bitCount_0f7a4_23 rfl (by decide) ?_
  refine x_iload_n (i := 0) dJ6_bitCount_0f7a4_24 rfl rfl ?_
  refine x_iload_n (i := 0) dJ6_bitCount_0f7a4_25 rfl rfl ?_
  refine x_iconst (v := 4) dJ6_bitCount_0f7a4_26 (by decide) ?_
  refine x_iushr dJ6_bitCount_0f7a4_27 ?_
  refine x_iadd dJ6_bitCount_0f7a4_28 ?_
  refine x_ldcw cnJ6_267 dJ6_bitCount_0f7a4_29 ?_
  refine x_iand dJ6_bitCount_0f7a4_32 ?_
  refine x_topi (y := nI s) ?_ ?_
  · have e1 : ((nI (pN2 4 (pN1 4 x))).toUInt32 >>> ((4 : Int32).toUInt32 &&& Int32.toUInt32 31)).toInt32 = nI (pN2 4 (pN1 4 x) / 2 ^ 4) := n_shr (k := 4) (by omega) (by decide)
    rw [e1, nk0f, nI_add, n_and, hs]; rfl
  refine x_istore_n (i := 0) dJ6_bitCount_0f7a4_33 rfl (by decide) ?_
  refine x_iload_n (i := 0) dJ6_bitCount_0f7a4_34 rfl rfl ?_
  refine x_iload_n (i := 0) dJ6_bitCount_0f7a4_35 rfl rfl ?_
  refine x_bipush (v := 8) dJ6_bitCount_0f7a4_36 (by decide) ?_
  refine x_iushr dJ6_bitCount_0f7a4_38 ?_
  refine x_iadd dJ6_bitCount_0f7a4_39 ?_
  refine x_topi (y := nI (s + s / 256)) ?_ ?_
  · have e1 : ((nI s).toUInt32 >>> ((8 : Int32).toUInt32 &&& Int32.toUInt32 31)).toInt32 = nI (s / 2 ^ 8) := n_shr (k := 8) (by omega) (by decide)
    rw [e1, nI_add]
  refine x_istore_n (i := 0) dJ6_bitCount_0f7a4_40 rfl (by decide) ?_
  refine x_iload_n (i := 0) dJ6_bitCount_0f7a4_41 rfl rfl ?_
  refine x_iload_n (i := 0) dJ6_bitCount_0f7a4_42 rfl rfl ?_
  refine x_bipush (v := 16) dJ6_bitCount_0f7a4_43 (by decide) ?_
  refine x_iushr dJ6_bitCount_0f7a4_45 ?_
  refine x_iadd dJ6_bitCount_0f7a4_46 ?_
  have hs4 : s + s / 256 < 2 ^ 18 := by omega
  generalize s + s / 256 = s4 at hsum hs4 ⊢
  refine x_topi (y := nI (s4 + s4 / 65536)) ?_ ?_
  · have e1 : ((nI s4).toUInt32 >>> ((16 : Int32).toUInt32 &&& Int32.toUInt32 31)).toInt32 = nI (s4 / 2 ^ 16) := n_shr (k := 16) (by omega) (by decide)
    rw [e1, nI_add]
  refine x_istore_n (i := 0) dJ6_bitCount_0f7a4_47 rfl (by decide) ?_
  refine x_iload_n (i := 0) dJ6_bitCount_0f7a4_48 rfl rfl ?_
  refine x_bipush (v := 63) dJ6_bitCount_0f7a4_49 (by decide) ?_
  refine x_iand dJ6_bitCount_0f7a4_51 ?_
  refine x_topi (y := nI (pop x)) ?_ ?_
  · have := n_and (s4 + s4 / 65536) 63
    have h7 := Nat.and_two_pow_sub_one_eq_mod (s4 + s4 / 65536) 6
    simp only [Nat.reducePow, Nat.reduceSub] at h7
    rw [h7, hsum] at this
    exact this
  refine x_iret dJ6_bitCount_0f7a4_52 rfl ⟨rfl, rfl⟩
