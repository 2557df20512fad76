/-! the model NineNamesModel: its places 30 to 42 -/
abbrev x_md (sz ru si pm my pl lw ev bp bi nw ka iw : Int32) : x_E := .inr (5, [.int sz, .int ru, .ref 31, .ref 32, .ref 33, .int si, .ref 34, .int pm, .ref 35, .ref 36, .int my, .int pl, .int lw, .ref 37, .int ev, .ref 38, .ref 39, .ref 40, .int bp, .int bi, .int nw, .ref 41, .ref 42, .int ka, .int iw])
theorem lg_lt0 (x y : Int64) : lg_cmp x y < 0 ↔ x < y := by
  unfold lg_cmp
  by_cases h1 : x > y
  · rw [if_pos h1]
    refine ⟨fun h => absurd h (by decide), fun h => ?_⟩
    exact absurd (Int64.lt_trans h h1) Int64.lt_irrefl
  · rw [if_neg h1]
    by_cases h2 : x = y
    · rw [if_pos h2]
      refine ⟨fun h => absurd h (by decide), fun h => ?_⟩
      subst h2; exact absurd h Int64.lt_irrefl
    · rw [if_neg h2]
      refine ⟨fun _ => ?_, fun _ => by decide⟩
      rcases Int64.lt_or_eq_of_le (Int64.not_lt.mp h1) with h | h
      · exact h
      · exact absurd h h2
theorem lg_gt0 (x y : Int64) : 0 < lg_cmp x y ↔ y < x := by
  unfold lg_cmp
  by_cases h1 : x > y
  · rw [if_pos h1]; exact ⟨fun _ => h1, fun _ => by decide⟩
  · rw [if_neg h1]
    by_cases h2 : x = y
    · rw [if_pos h2]; exact ⟨fun h => absurd h (by decide), fun h => absurd h h1⟩
    · rw [if_neg h2]; exact ⟨fun h => absurd h (by decide), fun h => absurd h h1⟩
set_option maxRecDepth 100000 in
set_option maxHeartbeats 4000000 in
theorem cM_in (d : Nat) (h : x_H) (v lo hi : Int64) : x_Ct d mX5_in [.long v, .long lo, .long hi] h (fun r h' => r = some (.int (if lo ≤ v ∧ v ≤ hi then 1 else 0)) ∧ h' = h) := by
  refine x_enter pnX5_in (Nat.le_of_ble_eq_true rfl) ?_
  refine x_lload_n (i := 0) dX5_in_0 rfl rfl ?_
  refine x_lload_n (i := 2) dX5_in_1 rfl rfl ?_
  refine x_lcmp dX5_in_2 ?_
  refine x_if_lt 17 dX5_in_3 (by decide) (fun hc => ?_) (fun hc => ?_)
  · have := (lg_lt0 _ _).mp hc
    refine x_iconst (v := 0) dX5_in_17 (by decide) ?_
    refine x_zret dX5_in_18 rfl (by first | rfl | decide | assumption) ⟨by rw [if_neg (fun q => Int64.not_lt.mpr q.1 this)], rfl⟩
  · have l1 : lo ≤ v := Int64.not_lt.mp (fun q => hc ((lg_lt0 _ _).mpr q))
    refine x_lload_n (i := 0) dX5_in_6 rfl rfl ?_
    refine x_lload dX5_in_7 rfl ?_
    refine x_lcmp dX5_in_9 ?_
    refine x_if_gt 17 dX5_in_10 (by decide) (fun hd => ?_) (fun hd => ?_)
    · have := (lg_gt0 _ _).mp hd
      refine x_iconst (v := 0) dX5_in_17 (by decide) ?_
      refine x_zret dX5_in_18 rfl (by first | rfl | decide | assumption) ⟨by rw [if_neg (fun q => Int64.not_lt.mpr q.2 this)], rfl⟩
    · have l2 : v ≤ hi := Int64.not_lt.mp (fun q => hd ((lg_gt0 _ _).mpr q))
      refine x_iconst (v := 1) dX5_in_13 (by decide) ?_
      refine x_goto 18 dX5_in_14 (by decide) ?_
      refine x_zret dX5_in_18 rfl (by first | rfl | decide | assumption) ⟨by rw [if_pos ⟨l1, l2⟩], rfl⟩
theorem l_le {x : Int32} {c : Int64} {k : Int} (hk : c.toInt = k) : c ≤ x.toInt64 ↔ k ≤ x.toInt := by rw [Int64.le_iff_toInt_le, hk, Int32.toInt_toInt64]
theorem l_ge {x : Int32} {c : Int64} {k : Int} (hk : c.toInt = k) : x.toInt64 ≤ c ↔ x.toInt ≤ k := by rw [Int64.le_iff_toInt_le, hk, Int32.toInt_toInt64]
theorem in_lit {x : Int32} {a b : Int64} {i j : Int} (ha : a.toInt = i) (hb : b.toInt = j) : (if a ≤ x.toInt64 ∧ x.toInt64 ≤ b then (1 : Int32) else 0) = if i ≤ x.toInt ∧ x.toInt ≤ j then 1 else 0 := by
  by_cases h : i ≤ x.toInt ∧ x.toInt ≤ j
  · rw [if_pos h, if_pos ⟨(l_le ha).mpr h.1, (l_ge hb).mpr h.2⟩]
  · rw [if_neg h, if_neg (fun q => h ⟨(l_le ha).mp q.1, (l_ge hb).mp q.2⟩)]
theorem isP_int (p : Int32) : (0 ≤ p ∧ p < 8) ↔ (0 ≤ p.toInt ∧ p.toInt ≤ 7) := by
  rw [i_ge (k := 0) rfl, i_lt (k := 8) rfl]
  omega
set_option maxRecDepth 100000 in
set_option maxHeartbeats 4000000 in
theorem cM_isPerson (d : Nat) (h : x_H) (p : Int32) : x_Ct (d + 1) mX5_isPerson [.int p] h (fun r h' => r = some (.int (if 0 ≤ p ∧ p < 8 then 1 else 0)) ∧ h' = h) := by
  refine x_enter pnX5_isPerson (Nat.le_of_ble_eq_true rfl) ?_
  refine x_iload_n (i := 0) dX5_isPerson_0 rfl rfl ?_
  refine x_i2l dX5_isPerson_1 ?_
  refine x_lconst (v := 0) dX5_isPerson_2 (by decide) ?_
  refine x_ldc2 cnX5_51 dX5_isPerson_3 ?_
  refine x_invS clX5_53 dX5_isPerson_6 (cM_in d h _ _ _) (by omega) rfl rfl (Nat.le_of_ble_eq_true rfl) ?_
  rintro r h' ⟨rfl, rfl⟩
  refine x_topi (y := if 0 ≤ p ∧ p < 8 then 1 else 0) ?_ ?_
  · rw [in_lit (i := 0) (j := 7) rfl rfl]
    by_cases hp : 0 ≤ p ∧ p < 8
    · rw [if_pos hp, if_pos ((isP_int p).mp hp)]
    · rw [if_neg hp, if_neg (fun q => hp ((isP_int p).mpr q))]
  by_cases hp : 0 ≤ p ∧ p < 8
  · rw [if_pos hp]
    refine x_zret dX5_isPerson_9 rfl (by first | rfl | decide | assumption) ⟨rfl, rfl⟩
  · rw [if_neg hp]
    refine x_zret dX5_isPerson_9 rfl (by first | rfl | decide | assumption) ⟨rfl, rfl⟩
/-! counting bits by clearing the lowest -/
theorem pop_dbl (y b : Nat) (hb : b < 2) (hy : y < 2 ^ 63) : pop (2 * y + b) = pop y + b := by
  unfold pop
  rw [show (64 : Nat) = 1 + 63 from rfl, cntF_add _ 1 63 0, cntF_add (fun j => y.testBit j) 63 1 0]
  have e1 : cntF (fun j => (2 * y + b).testBit j) 1 0 = b := by
    simp only [cntF, Nat.testBit_zero]
    rcases (show b = 0 ∨ b = 1 by omega) with rfl | rfl
    · simp
    · have : (2 * y + 1) % 2 = 1 := by omega
      simp [this]
  have e2 : cntF (fun j => (2 * y + b).testBit j) 63 (0 + 1) = cntF (fun j => y.testBit j) 63 0 := by
    rw [cntF_shift]
    refine cntF_cong _ _ (fun j _ _ => ?_)
    rw [Nat.testBit_succ]
    congr 1
    omega
  have e3 : cntF (fun j => y.testBit j) 1 (0 + 63) = 0 := by
    refine cntF_0 _ _ (fun j h1 h2 => Nat.testBit_lt_two_pow (Nat.lt_of_lt_of_le hy (Nat.pow_le_pow_right (by decide) (by omega))))
  rw [e1, e2, e3]
  omega
theorem and_dbl (y z : Nat) (b c : Nat) (hb : b < 2) (hc : c < 2) : (2 * y + b) &&& (2 * z + c) = 2 * (y &&& z) + b * c := by
  apply Nat.eq_of_testBit_eq
  intro i
  rw [Nat.testBit_and]
  cases i with
  | zero =>
    simp only [Nat.testBit_zero]
    rcases (show b = 0 ∨ b = 1 by omega) with rfl | rfl <;> rcases (show c = 0 ∨ c = 1 by omega) with rfl | rfl <;> simp <;> omega
  | succ i =>
    rw [Nat.testBit_succ, Nat.testBit_succ, Nat.testBit_succ, show (2 * y + b) / 2 = y by omega, show (2 * z + c) / 2 = z by omega]
    have : (2 * (y &&& z) + b * c) / 2 = y &&& z := by
      rcases (show b = 0 ∨ b = 1 by omega) with rfl | rfl <;> rcases (show c = 0 ∨ c = 1 by omega) with rfl | rfl <;> omega
    rw [this, Nat.testBit_and]
theorem pop_d0 (y : Nat) (hy : y < 2 ^ 63) : pop (2 * y) = pop y := by
  have := pop_dbl y 0 (by decide) hy
  rw [Nat.add_zero, Nat.add_zero] at this
  exact this
theorem pop_clear : ∀ (f x : Nat), x < 2 ^ f → f ≤ 62 → 0 < x → pop (x &&& (x - 1)) + 1 = pop x ∧ x &&& (x - 1) < x := by
  intro f
  induction f with
  | zero => intro x h _ h0; exact absurd h (by omega)
  | succ f ih =>
    intro x h hf h0
    have hp : 2 ^ (f + 1) = 2 * 2 ^ f := by rw [Nat.pow_succ]; omega
    have h62 : 2 ^ f ≤ 2 ^ 62 := Nat.pow_le_pow_right (by decide) (by omega)
    generalize 2 ^ f = P at hp h62 ih
    rcases Nat.mod_two_eq_zero_or_one x with hm | hm
    · obtain ⟨y, rfl⟩ : ∃ y, x = 2 * y := ⟨x / 2, by omega⟩
      have hy : 0 < y := by omega
      obtain ⟨ih1, ih2⟩ := ih y (by omega) (by omega) hy
      have e : (2 * y) &&& (2 * y - 1) = 2 * (y &&& (y - 1)) := by
        have := and_dbl y (y - 1) 0 1 (by decide) (by decide)
        rw [Nat.add_zero, Nat.zero_mul, Nat.add_zero, show 2 * (y - 1) + 1 = 2 * y - 1 by omega] at this
        exact this
      rw [e]
      rw [pop_d0 (y &&& (y - 1)) (by omega), pop_d0 y (by omega)]
      refine ⟨ih1, by omega⟩
    · obtain ⟨y, rfl⟩ : ∃ y, x = 2 * y + 1 := ⟨x / 2, by omega⟩
      have e : (2 * y + 1) &&& (2 * y + 1 - 1) = 2 * y := by
        have := and_dbl y y 1 0 (by decide) (by decide)
        rw [Nat.add_zero, Nat.mul_zero, Nat.add_zero, Nat.and_self] at this
        rw [show 2 * y + 1 - 1 = 2 * y by omega]
        exact this
      rw [e]
      rw [pop_d0 y (by omega), pop_dbl y 1 (by decide) (by omega)]
      refine ⟨rfl, by omega⟩
set_option maxRecDepth 100000 in
set_option maxHeartbeats 4000000 in
theorem cM_ones_loop (d : Nat) (h : x_H) (i0 : Int32) (Q : Option Value → x_H → Prop) : ∀ (f x a : Nat), x < f → x < 2 ^ 16 → Q (some (.int (nI (a + pop x)))) h → x_V d mX5_ones 4 (x_ls [some (.int i0), some (.int (nI a)), some (.int (nI x))]) [] h Q := by
  intro f
  induction f with
  | zero => intro x a h1; omega
  | succ f ih =>
    intro x a h1 h2 hq
    refine x_iload_n (i := 2) dX5_ones_4 rfl rfl ?_
    by_cases h0 : x = 0
    · subst h0
      refine x_if_eq 20 dX5_ones_5 (by decide) (fun _ => ?_) (fun hc => absurd (rfl) hc)
      rw [pop_zero, Nat.add_zero] at hq
      refine x_iload_n (i := 1) dX5_ones_20 rfl rfl ?_
      refine x_iret dX5_ones_21 rfl hq
    · have hcl := pop_clear 16 x h2 (by decide) (by omega)
      refine x_if_eq 20 dX5_ones_5 (by decide) (fun hc => absurd hc (nI_ne0 (by omega) (by omega))) (fun _ => ?_)
      first | refine x_incN dX5_ones_8 rfl (by decide) ?_ | refine x_iinc dX5_ones_8 rfl rfl (by decide) ?_
      refine x_iload_n (i := 2) dX5_ones_11 rfl rfl ?_
      refine x_iload_n (i := 2) dX5_ones_12 rfl rfl ?_
      refine x_iconst (v := 1) dX5_ones_13 (by decide) ?_
      refine x_isub dX5_ones_14 ?_
      refine x_iand dX5_ones_15 ?_
      refine x_topi (y := nI (x &&& (x - 1))) ?_ ?_
      · have e : nI x - 1 = nI (x - 1) := pk_sub (b := 1) (by omega)
        rw [e, n_and]
      refine x_istore_n (i := 2) dX5_ones_16 rfl (by decide) ?_
      refine x_goto 4 dX5_ones_17 (by decide) ?_
      refine x_wk (ih (x &&& (x - 1)) (a + 1) (by omega) (by omega) ?_) ⟨rfl, rfl, rfl, trivial⟩
      rw [Nat.add_assoc, Nat.add_comm 1, hcl.1]
      exact hq
set_option maxRecDepth 100000 in
set_option maxHeartbeats 4000000 in
theorem cM_ones (d : Nat) (h : x_H) (x : Nat) (hx : x < 2 ^ 16) : x_Ct d mX5_ones [.int (nI x)] h (fun r h' => r = some (.int (nI (pop x))) ∧ h' = h) := by
  refine x_enter pnX5_ones (Nat.le_of_ble_eq_true rfl) ?_
  refine x_iconst (v := 0) dX5_ones_0 (by decide) ?_
  refine x_istore_n (i := 1) dX5_ones_1 rfl (by decide) ?_
  refine x_iload_n (i := 0) dX5_ones_2 rfl rfl ?_
  refine x_istore_n (i := 2) dX5_ones_3 rfl (by decide) ?_
  exact x_wk (cM_ones_loop d h _ _ (x + 1) x 0 (by omega) hx ⟨by rw [Nat.zero_add], rfl⟩) ⟨rfl, rfl, rfl, trivial⟩
set_option maxRecDepth 100000 in
set_option maxHeartbeats 4000000 in
theorem cM_isLook (d : Nat) (h : x_H) (c : Nat) (hc : c < 127) : x_Ct (d + 1) mX5_isLook [.int (nI c)] h (fun r h' => r = some (.int (b2I (decide (97 ≤ c ∧ c < 105)))) ∧ h' = h) := by
  refine x_enter pnX5_isLook (Nat.le_of_ble_eq_true rfl) ?_
  refine x_iload_n (i := 0) dX5_isLook_0 rfl rfl ?_
  refine x_i2l dX5_isLook_1 ?_
  refine x_ldc2 cnX5_75 dX5_isLook_2 ?_
  refine x_ldc2 cnX5_77 dX5_isLook_5 ?_
  refine x_invS clX5_53 dX5_isLook_8 (cM_in d h _ _ _) (by omega) rfl rfl (Nat.le_of_ble_eq_true rfl) ?_
  rintro r h' ⟨rfl, rfl⟩
  refine x_topi (in_lit (i := 97) (j := 104) rfl rfl) ?_
  rw [nI_toInt (by omega)]
  by_cases hp : 97 ≤ c ∧ c < 105
  · rw [if_pos (by omega), decide_eq_true hp]
    refine x_zret dX5_isLook_11 rfl (by first | rfl | decide | assumption) ⟨rfl, rfl⟩
  · rw [if_neg (by omega), decide_eq_false hp]
    refine x_zret dX5_isLook_11 rfl (by first | rfl | decide | assumption) ⟨rfl, rfl⟩
set_option maxRecDepth 100000 in
set_option maxHeartbeats 4000000 in
theorem cM_isCrossing (d : Nat) (h : x_H) (c : Nat) (hc : c < 127) : x_Ct (d + 1) mX5_isCrossing [.int (nI c)] h (fun r h' => r = some (.int (b2I (decide (c = 63 ∨ (65 ≤ c ∧ c < 73))))) ∧ h' = h) := by
  refine x_enter pnX5_isCrossing (Nat.le_of_ble_eq_true rfl) ?_
  refine x_iload_n (i := 0) dX5_isCrossing_0 rfl rfl ?_
  refine x_bipush (v := 63) dX5_isCrossing_1 (by decide) ?_
  refine x_icmp_eq 20 dX5_isCrossing_3 (by decide) (fun h1 => ?_) (fun h1 => ?_)
  · have : c = 63 := nI_inj (b := 63) (by omega) (by decide) h1
    refine x_iconst (v := 1) dX5_isCrossing_20 (by decide) ?_
    refine x_goto 25 dX5_isCrossing_21 (by decide) ?_
    refine x_zret dX5_isCrossing_25 rfl (by first | rfl | decide | assumption) ⟨by rw [decide_eq_true (Or.inl this)]; rfl, rfl⟩
  · have hn : ¬ c = 63 := fun q => h1 (by rw [q]; rfl)
    refine x_iload_n (i := 0) dX5_isCrossing_6 rfl rfl ?_
    refine x_i2l dX5_isCrossing_7 ?_
    refine x_ldc2 cnX5_71 dX5_isCrossing_8 ?_
    refine x_ldc2 cnX5_73 dX5_isCrossing_11 ?_
    refine x_invS clX5_53 dX5_isCrossing_14 (cM_in d h _ _ _) (by omega) rfl rfl (Nat.le_of_ble_eq_true rfl) ?_
    rintro r h' ⟨rfl, rfl⟩
    refine x_topi (in_lit (i := 65) (j := 72) rfl rfl) ?_
    rw [nI_toInt (by omega)]
    by_cases hp : 65 ≤ c ∧ c < 73
    · rw [if_pos (by omega), decide_eq_true (Or.inr hp)]
      refine x_if_eq 24 dX5_isCrossing_17 (by decide) (fun hc => absurd hc (by decide)) (fun _ => ?_)
      refine x_iconst (v := 1) dX5_isCrossing_20 (by decide) ?_
      refine x_goto 25 dX5_isCrossing_21 (by decide) ?_
      refine x_zret dX5_isCrossing_25 rfl (by first | rfl | decide | assumption) ⟨rfl, rfl⟩
    · rw [if_neg (by omega), decide_eq_false (fun q => q.elim hn hp)]
      refine x_if_eq 24 dX5_isCrossing_17 (by decide) (fun _ => ?_) (fun hc => absurd (rfl) hc)
      refine x_iconst (v := 0) dX5_isCrossing_24 (by decide) ?_
      refine x_zret dX5_isCrossing_25 rfl (by first | rfl | decide | assumption) ⟨rfl, rfl⟩
