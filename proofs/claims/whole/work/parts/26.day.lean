/-! the day: n signs, codes cs -/
abbrev x_dy (n : Nat) : x_E := .inr (1, [.ref 2, .int (nI n)])
abbrev x_sg (cs : Nat → Nat) : x_E := .inl (0, 40, .inl (fun j => nI (cs j)))
def okD (n : Nat) (cs : Nat → Nat) : Prop := n ≤ 40 ∧ ∀ j, cs j < 127
def cd (n : Nat) (cs : Nat → Nat) (e : Int32) : Nat := if 0 ≤ e.toInt ∧ e.toInt < n then cs e.toInt.toNat else 0
theorem cd_nI {n : Nat} {cs : Nat → Nat} {j : Nat} (hj : j < 2 ^ 31) : cd n cs (nI j) = if j < n then cs j else 0 := by
  unfold cd
  rw [nI_toInt hj]
  by_cases h : j < n
  · rw [if_pos h, if_pos ⟨by omega, by omega⟩]; rfl
  · rw [if_neg h, if_neg (by omega)]
theorem cd_in {n : Nat} {cs : Nat → Nat} {j : Nat} (hj : j < n) (hn : n ≤ 40) : cd n cs (nI j) = cs j := by
  rw [cd_nI (by omega), if_pos hj]
theorem cd_lt {n : Nat} {cs : Nat → Nat} (h : okD n cs) (e : Int32) : cd n cs e < 127 := by
  unfold cd
  split
  · exact h.2 _
  · decide
def crN (c : Nat) : Option Nat := if 65 ≤ c ∧ c < 73 then some (c - 65) else none
def lkN (c : Nat) : Option Nat := if 97 ≤ c ∧ c < 105 then some (c - 97) else none
theorem crN_lt {c p : Nat} (h : crN c = some p) : p < 8 ∧ c = 65 + p := by
  unfold crN at h
  split at h
  · cases h; omega
  · cases h
theorem lkN_lt {c p : Nat} (h : lkN c = some p) : p < 8 ∧ c = 97 + p := by
  unfold lkN at h
  split at h
  · cases h; omega
  · cases h
theorem isP_sub {c a : Nat} (hc : c < 127) (ha : a < 127) : (if 0 ≤ nI c - nI a ∧ nI c - nI a < 8 then (1 : Int32) else 0) = if a ≤ c ∧ c < a + 8 then 1 else 0 := by
  by_cases h : a ≤ c
  · rw [pk_sub h, isP_nI (by omega)]
    by_cases h8 : c < a + 8
    · rw [if_pos (by omega), if_pos ⟨h, h8⟩]
    · rw [if_neg (by omega), if_neg (fun q => h8 q.2)]
  · rw [if_neg (fun q => absurd q.1 (Int32.not_le.mpr (pk_sneg (by omega) (by omega)))), if_neg (fun q => h q.1)]
set_option maxRecDepth 100000 in
set_option maxHeartbeats 4000000 in
theorem cD_signAt (d : Nat) (h : x_H) {n : Nat} {cs : Nat → Nat} (hD : h 1 = x_dy n) (hG : h 2 = x_sg cs) (hok : okD n cs) (e : Int32) : x_Ct d mX1_signAt [.ref 1, .int e] h (fun r h' => r = some (.int (nI (cd n cs e))) ∧ h' = h) := by
  have hn := hok.1
  refine x_enter pnX1_signAt (Nat.le_of_ble_eq_true rfl) ?_
  refine x_iload_n (i := 1) dX1_signAt_0 rfl rfl ?_
  refine x_if_lt 27 dX1_signAt_1 (by decide) (fun hc => ?_) (fun hc => ?_)
  · refine x_iconst (v := 0) dX1_signAt_27 (by decide) ?_
    have : cd n cs e = 0 := by
      unfold cd
      have : e.toInt < 0 := Int32.lt_iff_toInt_lt.mp hc
      rw [if_neg (by omega)]
    refine x_iret dX1_signAt_28 rfl ⟨by rw [this]; rfl, rfl⟩
  · obtain ⟨j, hj, rfl⟩ := nI_of hc
    refine x_iload_n (i := 1) dX1_signAt_4 rfl rfl ?_
    refine x_aload_n (i := 0) dX1_signAt_5 rfl rfl ?_
    refine x_get flX1_15 dX1_signAt_6 (by first | decide | assumption) (by first | assumption | exact x_up_s | (refine (x_up_n (by first | decide | assumption)).trans ?_; first | assumption | exact x_up_s | (refine (x_up_n (by first | decide | assumption)).trans ?_; first | assumption | exact x_up_s | (refine (x_up_n (by first | decide | assumption)).trans ?_; first | assumption | exact x_up_s | (refine (x_up_n (by first | decide | assumption)).trans ?_; first | assumption | exact x_up_s | (refine (x_up_n (by first | decide | assumption)).trans ?_; first | assumption | exact x_up_s | (refine (x_up_n (by first | decide | assumption)).trans ?_; first | assumption | exact x_up_s | (refine (x_up_n (by first | decide | assumption)).trans ?_; first | assumption | exact x_up_s | (refine (x_up_n (by first | decide | assumption)).trans ?_; first | assumption | exact x_up_s | (refine (x_up_n (by first | decide | assumption)).trans ?_; first | assumption | exact x_up_s | (refine (x_up_n (by first | decide | assumption)).trans ?_; first | assumption | exact x_up_s | (refine (x_up_n (by first | decide | assumption)).trans ?_; first | assumption | exact x_up_s | (refine (x_up_n (by first | decide | assumption)).trans ?_; first | assumption | exact x_up_s | (refine (x_up_n (by first | decide | assumption)).trans ?_; first | assumption | exact x_up_s)))))))))))))) rfl ?_
    refine x_icmp_ge 27 dX1_signAt_9 (by decide) (fun hd => ?_) (fun hd => ?_)
    · refine x_iconst (v := 0) dX1_signAt_27 (by decide) ?_
      have : ¬ j < n := fun q => nI_ge q (by omega) hd
      refine x_iret dX1_signAt_28 rfl ⟨by rw [cd_nI hj, if_neg this]; rfl, rfl⟩
    · have hjn : j < n := by
        rcases Nat.lt_or_ge j n with q | q
        · exact q
        · exact absurd (nI_le q hj) hd
      refine x_iload_n (i := 1) dX1_signAt_12 rfl rfl ?_
      refine x_bipush (v := 40) dX1_signAt_13 (by decide) ?_
      refine x_icmp_ge 27 dX1_signAt_15 (by decide) (fun hc => absurd hc (nI_ge (b := 40) (by omega) (by decide))) (fun _ => ?_)
      refine x_aload_n (i := 0) dX1_signAt_18 rfl rfl ?_
      refine x_get flX1_9 dX1_signAt_19 (by first | decide | assumption) (by first | assumption | exact x_up_s | (refine (x_up_n (by first | decide | assumption)).trans ?_; first | assumption | exact x_up_s | (refine (x_up_n (by first | decide | assumption)).trans ?_; first | assumption | exact x_up_s | (refine (x_up_n (by first | decide | assumption)).trans ?_; first | assumption | exact x_up_s | (refine (x_up_n (by first | decide | assumption)).trans ?_; first | assumption | exact x_up_s | (refine (x_up_n (by first | decide | assumption)).trans ?_; first | assumption | exact x_up_s | (refine (x_up_n (by first | decide | assumption)).trans ?_; first | assumption | exact x_up_s | (refine (x_up_n (by first | decide | assumption)).trans ?_; first | assumption | exact x_up_s | (refine (x_up_n (by first | decide | assumption)).trans ?_; first | assumption | exact x_up_s | (refine (x_up_n (by first | decide | assumption)).trans ?_; first | assumption | exact x_up_s | (refine (x_up_n (by first | decide | assumption)).trans ?_; first | assumption | exact x_up_s | (refine (x_up_n (by first | decide | assumption)).trans ?_; first | assumption | exact x_up_s | (refine (x_up_n (by first | decide | assumption)).trans ?_; first | assumption | exact x_up_s | (refine (x_up_n (by first | decide | assumption)).trans ?_; first | assumption | exact x_up_s)))))))))))))) rfl ?_
      refine x_iload_n (i := 1) dX1_signAt_22 rfl rfl ?_
      refine x_iald j dX1_signAt_23 (by first | decide | assumption) (by first | assumption | exact x_up_s | (refine (x_up_n (by first | decide | assumption)).trans ?_; first | assumption | exact x_up_s | (refine (x_up_n (by first | decide | assumption)).trans ?_; first | assumption | exact x_up_s | (refine (x_up_n (by first | decide | assumption)).trans ?_; first | assumption | exact x_up_s | (refine (x_up_n (by first | decide | assumption)).trans ?_; first | assumption | exact x_up_s | (refine (x_up_n (by first | decide | assumption)).trans ?_; first | assumption | exact x_up_s | (refine (x_up_n (by first | decide | assumption)).trans ?_; first | assumption | exact x_up_s | (refine (x_up_n (by first | decide | assumption)).trans ?_; first | assumption | exact x_up_s | (refine (x_up_n (by first | decide | assumption)).trans ?_; first | assumption | exact x_up_s | (refine (x_up_n (by first | decide | assumption)).trans ?_; first | assumption | exact x_up_s | (refine (x_up_n (by first | decide | assumption)).trans ?_; first | assumption | exact x_up_s | (refine (x_up_n (by first | decide | assumption)).trans ?_; first | assumption | exact x_up_s | (refine (x_up_n (by first | decide | assumption)).trans ?_; first | assumption | exact x_up_s | (refine (x_up_n (by first | decide | assumption)).trans ?_; first | assumption | exact x_up_s)))))))))))))) rfl (by omega) (by decide) ?_
      refine x_goto 28 dX1_signAt_24 (by decide) ?_
      refine x_iret dX1_signAt_28 rfl ⟨by rw [cd_in hjn hn], rfl⟩
set_option maxRecDepth 100000 in
set_option maxHeartbeats 4000000 in
theorem cD_crosser (d : Nat) (h : x_H) {n : Nat} {cs : Nat → Nat} (hD : h 1 = x_dy n) (hG : h 2 = x_sg cs) (hok : okD n cs) (e : Int32) : x_Ct (d + 1) mX1_crosser [.ref 1, .int e] h (fun r h' => r = some (.int (oI (crN (cd n cs e)))) ∧ h' = h) := by
  have hlt := cd_lt hok e
  refine x_enter pnX1_crosser (Nat.le_of_ble_eq_true rfl) ?_
  refine x_aload_n (i := 0) dX1_crosser_0 rfl rfl ?_
  refine x_iload_n (i := 1) dX1_crosser_1 rfl rfl ?_
  refine x_invV clX1_19 dX1_crosser_2 (cD_signAt d h hD hG hok e) (by omega) rfl (by first | decide | assumption) (by first | assumption | exact x_up_s | (refine (x_up_n (by first | decide | assumption)).trans ?_; first | assumption | exact x_up_s | (refine (x_up_n (by first | decide | assumption)).trans ?_; first | assumption | exact x_up_s | (refine (x_up_n (by first | decide | assumption)).trans ?_; first | assumption | exact x_up_s | (refine (x_up_n (by first | decide | assumption)).trans ?_; first | assumption | exact x_up_s | (refine (x_up_n (by first | decide | assumption)).trans ?_; first | assumption | exact x_up_s | (refine (x_up_n (by first | decide | assumption)).trans ?_; first | assumption | exact x_up_s | (refine (x_up_n (by first | decide | assumption)).trans ?_; first | assumption | exact x_up_s | (refine (x_up_n (by first | decide | assumption)).trans ?_; first | assumption | exact x_up_s | (refine (x_up_n (by first | decide | assumption)).trans ?_; first | assumption | exact x_up_s | (refine (x_up_n (by first | decide | assumption)).trans ?_; first | assumption | exact x_up_s | (refine (x_up_n (by first | decide | assumption)).trans ?_; first | assumption | exact x_up_s | (refine (x_up_n (by first | decide | assumption)).trans ?_; first | assumption | exact x_up_s | (refine (x_up_n (by first | decide | assumption)).trans ?_; first | assumption | exact x_up_s)))))))))))))) rfl (Nat.le_of_ble_eq_true rfl) ?_
  rintro r h' ⟨rfl, rfl⟩
  refine x_bipush (v := 65) dX1_crosser_5 (by decide) ?_
  refine x_isub dX1_crosser_7 ?_
  refine x_istore_n (i := 2) dX1_crosser_8 rfl (by decide) ?_
  refine x_iload_n (i := 2) dX1_crosser_9 rfl rfl ?_
  refine x_invS clX1_23 dX1_crosser_10 (c_isPerson d h' _) (by omega) rfl rfl (Nat.le_of_ble_eq_true rfl) ?_
  rintro r h'' ⟨rfl, rfl⟩
  refine x_topi (isP_sub (a := 65) hlt (by decide)) ?_
  unfold crN
  by_cases hc : 65 ≤ cd n cs e ∧ cd n cs e < 73
  · rw [if_pos (show 65 ≤ cd n cs e ∧ cd n cs e < 65 + 8 from hc), if_pos hc]
    refine x_if_eq 20 dX1_crosser_13 (by decide) (fun hc => absurd hc (by decide)) (fun _ => ?_)
    refine x_iload_n (i := 2) dX1_crosser_16 rfl rfl ?_
    refine x_goto 21 dX1_crosser_17 (by decide) ?_
    refine x_iret dX1_crosser_21 rfl ⟨congrArg (fun x => some (Value.int x)) (pk_sub hc.1), rfl⟩
  · rw [if_neg (show ¬ (65 ≤ cd n cs e ∧ cd n cs e < 65 + 8) from hc), if_neg hc]
    refine x_if_eq 20 dX1_crosser_13 (by decide) (fun _ => ?_) (fun hc => absurd (rfl) hc)
    refine x_iconst (v := (-1)) dX1_crosser_20 (by decide) ?_
    refine x_iret dX1_crosser_21 rfl ⟨rfl, rfl⟩
set_option maxRecDepth 100000 in
set_option maxHeartbeats 4000000 in
theorem cD_looker (d : Nat) (h : x_H) {n : Nat} {cs : Nat → Nat} (hD : h 1 = x_dy n) (hG : h 2 = x_sg cs) (hok : okD n cs) (e : Int32) : x_Ct (d + 1) mX1_looker [.ref 1, .int e] h (fun r h' => r = some (.int (oI (lkN (cd n cs e)))) ∧ h' = h) := by
  have hlt := cd_lt hok e
  refine x_enter pnX1_looker (Nat.le_of_ble_eq_true rfl) ?_
  refine x_aload_n (i := 0) dX1_looker_0 rfl rfl ?_
  refine x_iload_n (i := 1) dX1_looker_1 rfl rfl ?_
  refine x_invV clX1_19 dX1_looker_2 (cD_signAt d h hD hG hok e) (by omega) rfl (by first | decide | assumption) (by first | assumption | exact x_up_s | (refine (x_up_n (by first | decide | assumption)).trans ?_; first | assumption | exact x_up_s | (refine (x_up_n (by first | decide | assumption)).trans ?_; first | assumption | exact x_up_s | (refine (x_up_n (by first | decide | assumption)).trans ?_; first | assumption | exact x_up_s | (refine (x_up_n (by first | decide | assumption)).trans ?_; first | assumption | exact x_up_s | (refine (x_up_n (by first | decide | assumption)).trans ?_; first | assumption | exact x_up_s | (refine (x_up_n (by first | decide | assumption)).trans ?_; first | assumption | exact x_up_s | (refine (x_up_n (by first | decide | assumption)).trans ?_; first | assumption | exact x_up_s | (refine (x_up_n (by first | decide | assumption)).trans ?_; first | assumption | exact x_up_s | (refine (x_up_n (by first | decide | assumption)).trans ?_; first | assumption | exact x_up_s | (refine (x_up_n (by first | decide | assumption)).trans ?_; first | assumption | exact x_up_s | (refine (x_up_n (by first | decide | assumption)).trans ?_; first | assumption | exact x_up_s | (refine (x_up_n (by first | decide | assumption)).trans ?_; first | assumption | exact x_up_s | (refine (x_up_n (by first | decide | assumption)).trans ?_; first | assumption | exact x_up_s)))))))))))))) rfl (Nat.le_of_ble_eq_true rfl) ?_
  rintro r h' ⟨rfl, rfl⟩
  refine x_bipush (v := 97) dX1_looker_5 (by decide) ?_
  refine x_isub dX1_looker_7 ?_
  refine x_istore_n (i := 2) dX1_looker_8 rfl (by decide) ?_
  refine x_iload_n (i := 2) dX1_looker_9 rfl rfl ?_
  refine x_invS clX1_23 dX1_looker_10 (c_isPerson d h' _) (by omega) rfl rfl (Nat.le_of_ble_eq_true rfl) ?_
  rintro r h'' ⟨rfl, rfl⟩
  refine x_topi (isP_sub (a := 97) hlt (by decide)) ?_
  unfold lkN
  by_cases hc : 97 ≤ cd n cs e ∧ cd n cs e < 105
  · rw [if_pos (show 97 ≤ cd n cs e ∧ cd n cs e < 97 + 8 from hc), if_pos hc]
    refine x_if_eq 20 dX1_looker_13 (by decide) (fun hc => absurd hc (by decide)) (fun _ => ?_)
    refine x_iload_n (i := 2) dX1_looker_16 rfl rfl ?_
    refine x_goto 21 dX1_looker_17 (by decide) ?_
    refine x_iret dX1_looker_21 rfl ⟨congrArg (fun x => some (Value.int x)) (pk_sub hc.1), rfl⟩
  · rw [if_neg (show ¬ (97 ≤ cd n cs e ∧ cd n cs e < 97 + 8) from hc), if_neg hc]
    refine x_if_eq 20 dX1_looker_13 (by decide) (fun _ => ?_) (fun hc => absurd (rfl) hc)
    refine x_iconst (v := (-1)) dX1_looker_20 (by decide) ?_
    refine x_iret dX1_looker_21 rfl ⟨rfl, rfl⟩
set_option maxRecDepth 100000 in
set_option maxHeartbeats 4000000 in
theorem cD_isAsked (d : Nat) (h : x_H) {n : Nat} {cs : Nat → Nat} (hD : h 1 = x_dy n) (hG : h 2 = x_sg cs) (hok : okD n cs) (e : Int32) : x_Ct (d + 1) mX1_isAsked [.ref 1, .int e] h (fun r h' => r = some (.int (b2I (cd n cs e == 63))) ∧ h' = h) := by
  have hlt := cd_lt hok e
  refine x_enter pnX1_isAsked (Nat.le_of_ble_eq_true rfl) ?_
  refine x_aload_n (i := 0) dX1_isAsked_0 rfl rfl ?_
  refine x_iload_n (i := 1) dX1_isAsked_1 rfl rfl ?_
  refine x_invV clX1_19 dX1_isAsked_2 (cD_signAt d h hD hG hok e) (by omega) rfl (by first | decide | assumption) (by first | assumption | exact x_up_s | (refine (x_up_n (by first | decide | assumption)).trans ?_; first | assumption | exact x_up_s | (refine (x_up_n (by first | decide | assumption)).trans ?_; first | assumption | exact x_up_s | (refine (x_up_n (by first | decide | assumption)).trans ?_; first | assumption | exact x_up_s | (refine (x_up_n (by first | decide | assumption)).trans ?_; first | assumption | exact x_up_s | (refine (x_up_n (by first | decide | assumption)).trans ?_; first | assumption | exact x_up_s | (refine (x_up_n (by first | decide | assumption)).trans ?_; first | assumption | exact x_up_s | (refine (x_up_n (by first | decide | assumption)).trans ?_; first | assumption | exact x_up_s | (refine (x_up_n (by first | decide | assumption)).trans ?_; first | assumption | exact x_up_s | (refine (x_up_n (by first | decide | assumption)).trans ?_; first | assumption | exact x_up_s | (refine (x_up_n (by first | decide | assumption)).trans ?_; first | assumption | exact x_up_s | (refine (x_up_n (by first | decide | assumption)).trans ?_; first | assumption | exact x_up_s | (refine (x_up_n (by first | decide | assumption)).trans ?_; first | assumption | exact x_up_s | (refine (x_up_n (by first | decide | assumption)).trans ?_; first | assumption | exact x_up_s)))))))))))))) rfl (Nat.le_of_ble_eq_true rfl) ?_
  rintro r h' ⟨rfl, rfl⟩
  refine x_bipush (v := 63) dX1_isAsked_5 (by decide) ?_
  refine x_icmp_ne 14 dX1_isAsked_7 (by decide) (fun hc => ?_) (fun hc => ?_)
  · refine x_iconst (v := 0) dX1_isAsked_14 (by decide) ?_
    have : (cd n cs e == 63) = false := by
      rw [beq_eq_false_iff_ne]; intro q; exact hc (by rw [q]; rfl)
    refine x_zret dX1_isAsked_15 rfl (by first | rfl | decide | assumption) ⟨by rw [this]; rfl, rfl⟩
  · have : (cd n cs e == 63) = true := by
      rw [beq_iff_eq]; exact nI_inj (b := 63) (by omega) (by decide) hc
    refine x_iconst (v := 1) dX1_isAsked_10 (by decide) ?_
    refine x_goto 15 dX1_isAsked_11 (by decide) ?_
    refine x_zret dX1_isAsked_15 rfl (by first | rfl | decide | assumption) ⟨by rw [this]; rfl, rfl⟩
theorem oI_m1 {o : Option Nat} (ho : ∀ p, o = some p → p < 2 ^ 31) : oI o = -1 ↔ o = none := by
  cases o with
  | none => simp [oI]
  | some p =>
    simp only [oI, reduceCtorEq, iff_false]
    exact nI_neg1 (ho p rfl)
theorem cr_m1 (c : Nat) : oI (crN c) = -1 ↔ crN c = none := oI_m1 (fun p hp => by have := crN_lt hp; omega)
theorem lk_m1 (c : Nat) : oI (lkN c) = -1 ↔ lkN c = none := oI_m1 (fun p hp => by have := lkN_lt hp; omega)
theorem n_sh : ∀ p, p < 32 → (((nI p).toUInt32 &&& Int32.toUInt32 31).toBitVec % 32).toNat = p := by decide
theorem n_bit {m p : Nat} (hm : m < 2 ^ 31) (hp : p < 32) : ((nI m).toUInt32 >>> ((nI p).toUInt32 &&& Int32.toUInt32 31)).toInt32 &&& 1 = b2I (m.testBit p) := by
  rw [pk_ushrN (by omega) (nI p) p (n_sh p hp)]
  have e : nI (m / 2 ^ p) &&& 1 = nI (m / 2 ^ p % 2) := by
    have := n_and (m / 2 ^ p) 1
    rw [Nat.and_one_is_mod] at this
    exact this
  rw [e, Nat.testBit_eq_decide_div_mod_eq]
  rcases Nat.mod_two_eq_zero_or_one (m / 2 ^ p) with q | q
  · rw [q]; rfl
  · rw [q]; rfl
def lk1 (m c : Nat) : Bool := match lkN c with
  | some p => m.testBit p
  | none => false
theorem b2I_1 (b : Bool) : b2I b = 1 ↔ b = true := by cases b <;> simp [b2I]
theorem b2I_0 (b : Bool) : b2I b = 0 ↔ b = false := by cases b <;> simp [b2I]
set_option maxRecDepth 100000 in
set_option maxHeartbeats 4000000 in
theorem cD_looksOneOf (d : Nat) (h : x_H) {n : Nat} {cs : Nat → Nat} (hD : h 1 = x_dy n) (hG : h 2 = x_sg cs) (hok : okD n cs) (e : Int32) (m : Nat) (hm : m < 2 ^ 31) : x_Ct (d + 2) mX1_looksOneOf [.ref 1, .int e, .int (nI m)] h (fun r h' => r = some (.int (b2I (lk1 m (cd n cs e)))) ∧ h' = h) := by
  refine x_enter pnX1_looksOneOf (Nat.le_of_ble_eq_true rfl) ?_
  refine x_aload_n (i := 0) dX1_looksOneOf_0 rfl rfl ?_
  refine x_iload_n (i := 1) dX1_looksOneOf_1 rfl rfl ?_
  refine x_invV clX1_27 dX1_looksOneOf_2 (cD_looker d h hD hG hok e) (by omega) rfl (by first | decide | assumption) (by first | assumption | exact x_up_s | (refine (x_up_n (by first | decide | assumption)).trans ?_; first | assumption | exact x_up_s | (refine (x_up_n (by first | decide | assumption)).trans ?_; first | assumption | exact x_up_s | (refine (x_up_n (by first | decide | assumption)).trans ?_; first | assumption | exact x_up_s | (refine (x_up_n (by first | decide | assumption)).trans ?_; first | assumption | exact x_up_s | (refine (x_up_n (by first | decide | assumption)).trans ?_; first | assumption | exact x_up_s | (refine (x_up_n (by first | decide | assumption)).trans ?_; first | assumption | exact x_up_s | (refine (x_up_n (by first | decide | assumption)).trans ?_; first | assumption | exact x_up_s | (refine (x_up_n (by first | decide | assumption)).trans ?_; first | assumption | exact x_up_s | (refine (x_up_n (by first | decide | assumption)).trans ?_; first | assumption | exact x_up_s | (refine (x_up_n (by first | decide | assumption)).trans ?_; first | assumption | exact x_up_s | (refine (x_up_n (by first | decide | assumption)).trans ?_; first | assumption | exact x_up_s | (refine (x_up_n (by first | decide | assumption)).trans ?_; first | assumption | exact x_up_s | (refine (x_up_n (by first | decide | assumption)).trans ?_; first | assumption | exact x_up_s)))))))))))))) rfl (Nat.le_of_ble_eq_true rfl) ?_
  rintro r h' ⟨rfl, rfl⟩
  unfold lk1
  cases hl : lkN (cd n cs e) with
  | none =>
    refine x_istore_n (i := 3) dX1_looksOneOf_5 rfl (by decide) ?_
    refine x_iload_n (i := 3) dX1_looksOneOf_6 rfl rfl ?_
    refine x_iconst (v := (-1)) dX1_looksOneOf_7 (by decide) ?_
    refine x_icmp_eq 24 dX1_looksOneOf_8 (by decide) (fun _ => ?_) (fun hc => absurd (rfl) hc)
    refine x_iconst (v := 0) dX1_looksOneOf_24 (by decide) ?_
    refine x_zret dX1_looksOneOf_25 rfl (by first | rfl | decide | assumption) ⟨rfl, rfl⟩
  | some p =>
    have hp := lkN_lt hl
    refine x_istore_n (i := 3) dX1_looksOneOf_5 rfl (by decide) ?_
    refine x_iload_n (i := 3) dX1_looksOneOf_6 rfl rfl ?_
    refine x_iconst (v := (-1)) dX1_looksOneOf_7 (by decide) ?_
    refine x_icmp_eq 24 dX1_looksOneOf_8 (by decide) (fun hc => absurd hc (nI_neg1 (by omega))) (fun _ => ?_)
    refine x_iload_n (i := 2) dX1_looksOneOf_11 rfl rfl ?_
    refine x_iload_n (i := 3) dX1_looksOneOf_12 rfl rfl ?_
    refine x_iushr dX1_looksOneOf_13 ?_
    refine x_iconst (v := 1) dX1_looksOneOf_14 (by decide) ?_
    refine x_iand dX1_looksOneOf_15 ?_
    refine x_topi (n_bit hm (by omega)) ?_
    refine x_iconst (v := 1) dX1_looksOneOf_16 (by decide) ?_
    refine x_icmp_ne 24 dX1_looksOneOf_17 (by decide) (fun hc => ?_) (fun hc => ?_)
    · have : m.testBit p = false := by
        cases hb : m.testBit p
        · rfl
        · rw [hb] at hc; exact absurd rfl hc
      refine x_iconst (v := 0) dX1_looksOneOf_24 (by decide) ?_
      refine x_zret dX1_looksOneOf_25 rfl (by first | rfl | decide | assumption) ⟨by simp only [this]; rfl, rfl⟩
    · have : m.testBit p = true := (b2I_1 _).mp hc
      refine x_iconst (v := 1) dX1_looksOneOf_20 (by decide) ?_
      refine x_goto 25 dX1_looksOneOf_21 (by decide) ?_
      refine x_zret dX1_looksOneOf_25 rfl (by first | rfl | decide | assumption) ⟨by simp only [this]; rfl, rfl⟩
