/-! the class NineNames: its places 0 to 29 -/
abbrev x_x : x_E := .inr (4, [.ref 1, .ref 3, .ref 7, .ref 8, .ref 9, .ref 10, .ref 20, .ref 21])
abbrev x_st (L w q : Nat) : x_E := .inr (3, [.int (nI L), .int (nI w), .int (nI q), .ref 4, .ref 5, .ref 6])
theorem fI_m6 {o : Option Nat} (ho : ∀ p, o = some p → p < 2 ^ 31) : fI o = -6 ↔ o = none := by
  cases o with
  | none => simp [fI]
  | some p =>
    simp only [fI, reduceCtorEq, iff_false]
    intro e
    have h1 := nI_toInt (ho p rfl)
    rw [e] at h1
    have : (-6 : Int32).toInt = -6 := by decide
    omega
theorem ffA_lt (cs : Nat → Nat) : ∀ (f i a p : Nat), ffA cs f i a = some p → p < i + f
  | 0, i, a, p, h => by cases h
  | f + 1, i, a, p, h => by
    unfold ffA at h
    split at h
    · split at h
      · cases h; omega
      · have := ffA_lt cs f _ _ _ h; omega
    · split at h
      · cases h; omega
      · have := ffA_lt cs f _ _ _ h; omega
def rfs (n : Nat) (cs : Nat → Nat) (e : Nat) : Int32 := match ff n cs with
  | some _ => -5
  | none => if anyF (askP cs) e 0 then -3 else 0
set_option maxRecDepth 100000 in
set_option maxHeartbeats 4000000 in
theorem cX_refusalWithin (d : Nat) (h : x_H) {n : Nat} {cs : Nat → Nat} (hX : h 0 = x_x) (hD : h 1 = x_dy n) (hG : h 2 = x_sg cs) (hok : okD n cs) (e : Nat) (he : e ≤ n) : x_Ct (d + 3) mX4_refusalWithin [.ref 0, .int (nI e)] h (fun r h' => r = some (.int (rfs n cs e)) ∧ h' = h) := by
  have hn := hok.1
  refine x_enter pnX4_refusalWithin (Nat.le_of_ble_eq_true rfl) ?_
  refine x_aload_n (i := 0) dX4_refusalWithin_0 rfl rfl ?_
  refine x_get flX4_12 dX4_refusalWithin_1 (by first | assumption | decide) (by first | assumption | exact x_up_s | (refine (x_up_n (by first | assumption | decide)).trans ?_; first | assumption | exact x_up_s | (refine (x_up_n (by first | assumption | decide)).trans ?_; first | assumption | exact x_up_s | (refine (x_up_n (by first | assumption | decide)).trans ?_; first | assumption | exact x_up_s | (refine (x_up_n (by first | assumption | decide)).trans ?_; first | assumption | exact x_up_s | (refine (x_up_n (by first | assumption | decide)).trans ?_; first | assumption | exact x_up_s | (refine (x_up_n (by first | assumption | decide)).trans ?_; first | assumption | exact x_up_s | (refine (x_up_n (by first | assumption | decide)).trans ?_; first | assumption | exact x_up_s)))))))) rfl ?_
  refine x_invV clX4_75 dX4_refusalWithin_4 (cD_firstFault d h hD hG hok) (by omega) rfl (by first | assumption | decide) (by first | assumption | exact x_up_s | (refine (x_up_n (by first | assumption | decide)).trans ?_; first | assumption | exact x_up_s | (refine (x_up_n (by first | assumption | decide)).trans ?_; first | assumption | exact x_up_s | (refine (x_up_n (by first | assumption | decide)).trans ?_; first | assumption | exact x_up_s | (refine (x_up_n (by first | assumption | decide)).trans ?_; first | assumption | exact x_up_s | (refine (x_up_n (by first | assumption | decide)).trans ?_; first | assumption | exact x_up_s | (refine (x_up_n (by first | assumption | decide)).trans ?_; first | assumption | exact x_up_s | (refine (x_up_n (by first | assumption | decide)).trans ?_; first | assumption | exact x_up_s)))))))) rfl (Nat.le_of_ble_eq_true rfl) ?_
  rintro r h' ⟨rfl, rfl⟩
  have h6 := fI_m6 (o := ff n cs) (fun p hp => by have := ffA_lt cs _ _ _ _ hp; omega)
  refine x_bipush (v := (-6)) dX4_refusalWithin_7 (by decide) ?_
  refine x_icmp_eq 15 dX4_refusalWithin_9 (by decide) (fun hc => ?_) (fun hc => ?_)
  · have hf := h6.mp hc
    refine x_aload_n (i := 0) dX4_refusalWithin_15 rfl rfl ?_
    refine x_get flX4_12 dX4_refusalWithin_16 (by first | assumption | decide) (by first | assumption | exact x_up_s | (refine (x_up_n (by first | assumption | decide)).trans ?_; first | assumption | exact x_up_s | (refine (x_up_n (by first | assumption | decide)).trans ?_; first | assumption | exact x_up_s | (refine (x_up_n (by first | assumption | decide)).trans ?_; first | assumption | exact x_up_s | (refine (x_up_n (by first | assumption | decide)).trans ?_; first | assumption | exact x_up_s | (refine (x_up_n (by first | assumption | decide)).trans ?_; first | assumption | exact x_up_s | (refine (x_up_n (by first | assumption | decide)).trans ?_; first | assumption | exact x_up_s | (refine (x_up_n (by first | assumption | decide)).trans ?_; first | assumption | exact x_up_s)))))))) rfl ?_
    refine x_iload_n (i := 1) dX4_refusalWithin_19 rfl rfl ?_
    refine x_invV clX4_194 dX4_refusalWithin_20 (cD_asksWithin d h' hD hG hok e he) (by omega) rfl (by first | assumption | decide) (by first | assumption | exact x_up_s | (refine (x_up_n (by first | assumption | decide)).trans ?_; first | assumption | exact x_up_s | (refine (x_up_n (by first | assumption | decide)).trans ?_; first | assumption | exact x_up_s | (refine (x_up_n (by first | assumption | decide)).trans ?_; first | assumption | exact x_up_s | (refine (x_up_n (by first | assumption | decide)).trans ?_; first | assumption | exact x_up_s | (refine (x_up_n (by first | assumption | decide)).trans ?_; first | assumption | exact x_up_s | (refine (x_up_n (by first | assumption | decide)).trans ?_; first | assumption | exact x_up_s | (refine (x_up_n (by first | assumption | decide)).trans ?_; first | assumption | exact x_up_s)))))))) rfl (Nat.le_of_ble_eq_true rfl) ?_
    rintro r h'' ⟨rfl, rfl⟩
    cases hb : anyF (askP cs) e 0 with
    | true =>
      refine x_if_eq 31 dX4_refusalWithin_23 (by decide) (fun hc => absurd hc (by decide)) (fun _ => ?_)
      refine x_bipush (v := (-3)) dX4_refusalWithin_26 (by decide) ?_
      refine x_goto 32 dX4_refusalWithin_28 (by decide) ?_
      refine x_iret dX4_refusalWithin_32 rfl ⟨by rw [rfs, hf, hb]; rfl, rfl⟩
    | false =>
      refine x_if_eq 31 dX4_refusalWithin_23 (by decide) (fun _ => ?_) (fun hc => absurd (rfl) hc)
      refine x_iconst (v := 0) dX4_refusalWithin_31 (by decide) ?_
      refine x_iret dX4_refusalWithin_32 rfl ⟨by rw [rfs, hf, hb]; rfl, rfl⟩
  · refine x_bipush (v := (-5)) dX4_refusalWithin_12 (by decide) ?_
    have : ∃ i, ff n cs = some i := by
      cases hf : ff n cs with
      | none => exact absurd (h6.mpr hf) hc
      | some i => exact ⟨i, rfl⟩
    obtain ⟨i, hi⟩ := this
    refine x_iret dX4_refusalWithin_14 rfl ⟨by rw [rfs, hi], rfl⟩
set_option maxRecDepth 100000 in
set_option maxHeartbeats 4000000 in
theorem cX_refusalFor (d : Nat) (h : x_H) {n : Nat} {cs : Nat → Nat} (hX : h 0 = x_x) (hD : h 1 = x_dy n) (hG : h 2 = x_sg cs) (hok : okD n cs) (p : Int32) : x_Ct (d + 4) mX4_refusalFor [.ref 0, .int p] h (fun r h' => r = some (.int (if 0 ≤ p ∧ p < 8 then rfs n cs n else -1)) ∧ h' = h) := by
  refine x_enter pnX4_refusalFor (Nat.le_of_ble_eq_true rfl) ?_
  refine x_iload_n (i := 1) dX4_refusalFor_0 rfl rfl ?_
  refine x_invS clX4_123 dX4_refusalFor_1 (c_isPerson d h p) (by omega) rfl rfl (Nat.le_of_ble_eq_true rfl) ?_
  rintro r h' ⟨rfl, rfl⟩
  by_cases hp : 0 ≤ p ∧ p < 8
  · rw [if_pos hp, if_pos hp]
    refine x_if_eq 21 dX4_refusalFor_4 (by decide) (fun hc => absurd hc (by decide)) (fun _ => ?_)
    refine x_aload_n (i := 0) dX4_refusalFor_7 rfl rfl ?_
    refine x_aload_n (i := 0) dX4_refusalFor_8 rfl rfl ?_
    refine x_get flX4_12 dX4_refusalFor_9 (by first | assumption | decide) (by first | assumption | exact x_up_s | (refine (x_up_n (by first | assumption | decide)).trans ?_; first | assumption | exact x_up_s | (refine (x_up_n (by first | assumption | decide)).trans ?_; first | assumption | exact x_up_s | (refine (x_up_n (by first | assumption | decide)).trans ?_; first | assumption | exact x_up_s | (refine (x_up_n (by first | assumption | decide)).trans ?_; first | assumption | exact x_up_s | (refine (x_up_n (by first | assumption | decide)).trans ?_; first | assumption | exact x_up_s | (refine (x_up_n (by first | assumption | decide)).trans ?_; first | assumption | exact x_up_s | (refine (x_up_n (by first | assumption | decide)).trans ?_; first | assumption | exact x_up_s)))))))) rfl ?_
    refine x_get flX4_68 dX4_refusalFor_12 (by first | assumption | decide) (by first | assumption | exact x_up_s | (refine (x_up_n (by first | assumption | decide)).trans ?_; first | assumption | exact x_up_s | (refine (x_up_n (by first | assumption | decide)).trans ?_; first | assumption | exact x_up_s | (refine (x_up_n (by first | assumption | decide)).trans ?_; first | assumption | exact x_up_s | (refine (x_up_n (by first | assumption | decide)).trans ?_; first | assumption | exact x_up_s | (refine (x_up_n (by first | assumption | decide)).trans ?_; first | assumption | exact x_up_s | (refine (x_up_n (by first | assumption | decide)).trans ?_; first | assumption | exact x_up_s | (refine (x_up_n (by first | assumption | decide)).trans ?_; first | assumption | exact x_up_s)))))))) rfl ?_
    refine x_invV clX4_79 dX4_refusalFor_15 (cX_refusalWithin d h' hX hD hG hok n (Nat.le_refl _)) (by omega) rfl (by first | assumption | decide) (by first | assumption | exact x_up_s | (refine (x_up_n (by first | assumption | decide)).trans ?_; first | assumption | exact x_up_s | (refine (x_up_n (by first | assumption | decide)).trans ?_; first | assumption | exact x_up_s | (refine (x_up_n (by first | assumption | decide)).trans ?_; first | assumption | exact x_up_s | (refine (x_up_n (by first | assumption | decide)).trans ?_; first | assumption | exact x_up_s | (refine (x_up_n (by first | assumption | decide)).trans ?_; first | assumption | exact x_up_s | (refine (x_up_n (by first | assumption | decide)).trans ?_; first | assumption | exact x_up_s | (refine (x_up_n (by first | assumption | decide)).trans ?_; first | assumption | exact x_up_s)))))))) rfl (Nat.le_of_ble_eq_true rfl) ?_
    rintro r h'' ⟨rfl, rfl⟩
    refine x_goto 22 dX4_refusalFor_18 (by decide) ?_
    refine x_iret dX4_refusalFor_22 rfl ⟨rfl, rfl⟩
  · rw [if_neg hp, if_neg hp]
    refine x_if_eq 21 dX4_refusalFor_4 (by decide) (fun _ => ?_) (fun hc => absurd (rfl) hc)
    refine x_iconst (v := (-1)) dX4_refusalFor_21 (by decide) ?_
    refine x_iret dX4_refusalFor_22 rfl ⟨rfl, rfl⟩
set_option maxRecDepth 100000 in
set_option maxHeartbeats 4000000 in
theorem cX_refusalOfChoice (d : Nat) (h : x_H) {n : Nat} {cs : Nat → Nat} (hX : h 0 = x_x) (hD : h 1 = x_dy n) (hG : h 2 = x_sg cs) (hok : okD n cs) (p : Int32) : x_Ct (d + 4) mX4_refusalOfChoice [.ref 0, .int p] h (fun r h' => r = some (.int (if p = 0 ∨ p = 1 then rfs n cs n else -2)) ∧ h' = h) := by
  have tail : (p = 0 ∨ p = 1) → x_V (d + 4) mX4_refusalOfChoice 9 (x_ls [some (.ref 0), some (.int p)]) [] h (fun r h' => r = some (.int (if p = 0 ∨ p = 1 then rfs n cs n else -2)) ∧ h' = h) := by
    intro hp
    rw [if_pos hp]
    refine x_aload_n (i := 0) dX4_refusalOfChoice_9 rfl rfl ?_
    refine x_aload_n (i := 0) dX4_refusalOfChoice_10 rfl rfl ?_
    refine x_get flX4_12 dX4_refusalOfChoice_11 (by first | assumption | decide) (by first | assumption | exact x_up_s | (refine (x_up_n (by first | assumption | decide)).trans ?_; first | assumption | exact x_up_s | (refine (x_up_n (by first | assumption | decide)).trans ?_; first | assumption | exact x_up_s | (refine (x_up_n (by first | assumption | decide)).trans ?_; first | assumption | exact x_up_s | (refine (x_up_n (by first | assumption | decide)).trans ?_; first | assumption | exact x_up_s | (refine (x_up_n (by first | assumption | decide)).trans ?_; first | assumption | exact x_up_s | (refine (x_up_n (by first | assumption | decide)).trans ?_; first | assumption | exact x_up_s | (refine (x_up_n (by first | assumption | decide)).trans ?_; first | assumption | exact x_up_s)))))))) rfl ?_
    refine x_get flX4_68 dX4_refusalOfChoice_14 (by first | assumption | decide) (by first | assumption | exact x_up_s | (refine (x_up_n (by first | assumption | decide)).trans ?_; first | assumption | exact x_up_s | (refine (x_up_n (by first | assumption | decide)).trans ?_; first | assumption | exact x_up_s | (refine (x_up_n (by first | assumption | decide)).trans ?_; first | assumption | exact x_up_s | (refine (x_up_n (by first | assumption | decide)).trans ?_; first | assumption | exact x_up_s | (refine (x_up_n (by first | assumption | decide)).trans ?_; first | assumption | exact x_up_s | (refine (x_up_n (by first | assumption | decide)).trans ?_; first | assumption | exact x_up_s | (refine (x_up_n (by first | assumption | decide)).trans ?_; first | assumption | exact x_up_s)))))))) rfl ?_
    refine x_invV clX4_79 dX4_refusalOfChoice_17 (cX_refusalWithin d h hX hD hG hok n (Nat.le_refl _)) (by omega) rfl (by first | assumption | decide) (by first | assumption | exact x_up_s | (refine (x_up_n (by first | assumption | decide)).trans ?_; first | assumption | exact x_up_s | (refine (x_up_n (by first | assumption | decide)).trans ?_; first | assumption | exact x_up_s | (refine (x_up_n (by first | assumption | decide)).trans ?_; first | assumption | exact x_up_s | (refine (x_up_n (by first | assumption | decide)).trans ?_; first | assumption | exact x_up_s | (refine (x_up_n (by first | assumption | decide)).trans ?_; first | assumption | exact x_up_s | (refine (x_up_n (by first | assumption | decide)).trans ?_; first | assumption | exact x_up_s | (refine (x_up_n (by first | assumption | decide)).trans ?_; first | assumption | exact x_up_s)))))))) rfl (Nat.le_of_ble_eq_true rfl) ?_
    rintro r h'' ⟨rfl, rfl⟩
    refine x_goto 25 dX4_refusalOfChoice_20 (by decide) ?_
    refine x_iret dX4_refusalOfChoice_25 rfl ⟨rfl, rfl⟩
  refine x_enter pnX4_refusalOfChoice (Nat.le_of_ble_eq_true rfl) ?_
  refine x_iload_n (i := 1) dX4_refusalOfChoice_0 rfl rfl ?_
  refine x_if_eq 9 dX4_refusalOfChoice_1 (by decide) (fun hc => ?_) (fun hc => ?_)
  · exact x_wk (tail (Or.inl hc)) ⟨rfl, rfl, trivial⟩
  · refine x_iload_n (i := 1) dX4_refusalOfChoice_4 rfl rfl ?_
    refine x_iconst (v := 1) dX4_refusalOfChoice_5 (by decide) ?_
    refine x_icmp_ne 23 dX4_refusalOfChoice_6 (by decide) (fun hd => ?_) (fun hd => ?_)
    · refine x_bipush (v := (-2)) dX4_refusalOfChoice_23 (by decide) ?_
      refine x_iret dX4_refusalOfChoice_25 rfl ⟨by rw [if_neg (fun q => q.elim hc hd)], rfl⟩
    · exact x_wk (tail (Or.inr hd)) ⟨rfl, rfl, trivial⟩
set_option maxRecDepth 100000 in
set_option maxHeartbeats 4000000 in
theorem cX_refusalOfCrossing (d : Nat) (h : x_H) {n : Nat} {cs : Nat → Nat} (hX : h 0 = x_x) (hD : h 1 = x_dy n) (hG : h 2 = x_sg cs) (hok : okD n cs) (p what : Int32) : x_Ct (d + 5) mX4_refusalOfCrossing [.ref 0, .int p, .int what] h (fun r h' => r = some (.int (if 0 ≤ p ∧ p < 8 then (if what = 0 ∨ what = 1 then (if rfs n cs n = 0 then (if n < 40 then 0 else -4) else rfs n cs n) else -2) else -1)) ∧ h' = h) := by
  have hn := hok.1
  refine x_enter pnX4_refusalOfCrossing (Nat.le_of_ble_eq_true rfl) ?_
  refine x_iload_n (i := 1) dX4_refusalOfCrossing_0 rfl rfl ?_
  refine x_invS clX4_123 dX4_refusalOfCrossing_1 (c_isPerson d h p) (by omega) rfl rfl (Nat.le_of_ble_eq_true rfl) ?_
  rintro r h' ⟨rfl, rfl⟩
  by_cases hp : 0 ≤ p ∧ p < 8
  · rw [if_pos hp, if_pos hp]
    refine x_if_ne 9 dX4_refusalOfCrossing_4 (by decide) (fun _ => ?_) (fun hc => absurd hc (by decide))
    refine x_aload_n (i := 0) dX4_refusalOfCrossing_9 rfl rfl ?_
    refine x_iload_n (i := 2) dX4_refusalOfCrossing_10 rfl rfl ?_
    refine x_invV clX4_139 dX4_refusalOfCrossing_11 (cX_refusalOfChoice d h' hX hD hG hok what) (by omega) rfl (by first | assumption | decide) (by first | assumption | exact x_up_s | (refine (x_up_n (by first | assumption | decide)).trans ?_; first | assumption | exact x_up_s | (refine (x_up_n (by first | assumption | decide)).trans ?_; first | assumption | exact x_up_s | (refine (x_up_n (by first | assumption | decide)).trans ?_; first | assumption | exact x_up_s | (refine (x_up_n (by first | assumption | decide)).trans ?_; first | assumption | exact x_up_s | (refine (x_up_n (by first | assumption | decide)).trans ?_; first | assumption | exact x_up_s | (refine (x_up_n (by first | assumption | decide)).trans ?_; first | assumption | exact x_up_s | (refine (x_up_n (by first | assumption | decide)).trans ?_; first | assumption | exact x_up_s)))))))) rfl (Nat.le_of_ble_eq_true rfl) ?_
    rintro r h'' ⟨rfl, rfl⟩
    by_cases hwh : what = 0 ∨ what = 1
    · rw [if_pos hwh, if_pos hwh]
      refine x_istore_n (i := 3) dX4_refusalOfCrossing_14 rfl (by decide) ?_
      refine x_iload_n (i := 3) dX4_refusalOfCrossing_15 rfl rfl ?_
      refine x_if_eq 21 dX4_refusalOfCrossing_16 (by decide) (fun hc => ?_) (fun hc => ?_)
      · rw [if_pos hc]
        refine x_aload_n (i := 0) dX4_refusalOfCrossing_21 rfl rfl ?_
        refine x_get flX4_12 dX4_refusalOfCrossing_22 (by first | assumption | decide) (by first | assumption | exact x_up_s | (refine (x_up_n (by first | assumption | decide)).trans ?_; first | assumption | exact x_up_s | (refine (x_up_n (by first | assumption | decide)).trans ?_; first | assumption | exact x_up_s | (refine (x_up_n (by first | assumption | decide)).trans ?_; first | assumption | exact x_up_s | (refine (x_up_n (by first | assumption | decide)).trans ?_; first | assumption | exact x_up_s | (refine (x_up_n (by first | assumption | decide)).trans ?_; first | assumption | exact x_up_s | (refine (x_up_n (by first | assumption | decide)).trans ?_; first | assumption | exact x_up_s | (refine (x_up_n (by first | assumption | decide)).trans ?_; first | assumption | exact x_up_s)))))))) rfl ?_
        refine x_get flX4_68 dX4_refusalOfCrossing_25 (by first | assumption | decide) (by first | assumption | exact x_up_s | (refine (x_up_n (by first | assumption | decide)).trans ?_; first | assumption | exact x_up_s | (refine (x_up_n (by first | assumption | decide)).trans ?_; first | assumption | exact x_up_s | (refine (x_up_n (by first | assumption | decide)).trans ?_; first | assumption | exact x_up_s | (refine (x_up_n (by first | assumption | decide)).trans ?_; first | assumption | exact x_up_s | (refine (x_up_n (by first | assumption | decide)).trans ?_; first | assumption | exact x_up_s | (refine (x_up_n (by first | assumption | decide)).trans ?_; first | assumption | exact x_up_s | (refine (x_up_n (by first | assumption | decide)).trans ?_; first | assumption | exact x_up_s)))))))) rfl ?_
        refine x_bipush (v := 40) dX4_refusalOfCrossing_28 (by decide) ?_
        refine x_icmp_lt 38 dX4_refusalOfCrossing_30 (by decide) (fun hd => ?_) (fun hd => ?_)
        · have : n < 40 := (nI_ltI (b := 40) (by omega) (by decide)).mp hd
          refine x_iconst (v := 0) dX4_refusalOfCrossing_38 (by decide) ?_
          refine x_iret dX4_refusalOfCrossing_39 rfl ⟨by rw [if_pos this], rfl⟩
        · have : ¬ n < 40 := fun q => hd ((nI_ltI (b := 40) (by omega) (by decide)).mpr q)
          refine x_bipush (v := (-4)) dX4_refusalOfCrossing_33 (by decide) ?_
          refine x_goto 39 dX4_refusalOfCrossing_35 (by decide) ?_
          refine x_iret dX4_refusalOfCrossing_39 rfl ⟨by rw [if_neg this], rfl⟩
      · rw [if_neg hc]
        refine x_iload_n (i := 3) dX4_refusalOfCrossing_19 rfl rfl ?_
        refine x_iret dX4_refusalOfCrossing_20 rfl ⟨rfl, rfl⟩
    · rw [if_neg hwh, if_neg hwh]
      refine x_istore_n (i := 3) dX4_refusalOfCrossing_14 rfl (by decide) ?_
      refine x_iload_n (i := 3) dX4_refusalOfCrossing_15 rfl rfl ?_
      refine x_if_eq 21 dX4_refusalOfCrossing_16 (by decide) (fun hc => absurd hc (by decide)) (fun _ => ?_)
      refine x_iload_n (i := 3) dX4_refusalOfCrossing_19 rfl rfl ?_
      refine x_iret dX4_refusalOfCrossing_20 rfl ⟨rfl, rfl⟩
  · rw [if_neg hp, if_neg hp]
    refine x_if_ne 9 dX4_refusalOfCrossing_4 (by decide) (fun hc => absurd (rfl) hc) (fun _ => ?_)
    refine x_iconst (v := (-1)) dX4_refusalOfCrossing_7 (by decide) ?_
    refine x_iret dX4_refusalOfCrossing_8 rfl ⟨rfl, rfl⟩
/-- one event on the board -/
def bst (w L : Nat) (cs : Nat → Nat) (j : Nat) (b : Bd) : Bd := match crN (cs j) with
  | some p => bw w L (p, j + 1) b
  | none => b
theorem okB_bst {w L : Nat} {cs : Nat → Nat} {j : Nat} {b : Bd} (h : okB L b) (hj : j < 40) : okB L (bst w L cs j b) := by
  unfold bst
  cases hc : crN (cs j) with
  | none => exact h
  | some p => exact okB_bw h (by have := crN_lt hc; show p ≤ 8; omega) (by show j + 1 < 64; omega)
def bdR (w L : Nat) (cs : Nat → Nat) : Nat → Bd
  | 0 => []
  | j + 1 => bst w L cs j (bdR w L cs j)
theorem okB_bdR {w L : Nat} {cs : Nat → Nat} (h1 : 1 ≤ L) (h9 : L ≤ 9) : ∀ {j : Nat}, j ≤ 40 → okB L (bdR w L cs j)
  | 0, _ => okB_nil h1 h9
  | j + 1, hj => okB_bst (okB_bdR h1 h9 (by omega)) (by omega)
set_option maxRecDepth 100000 in
set_option maxHeartbeats 4000000 in
theorem cX_step (d : Nat) (h : x_H) {n : Nat} {cs : Nat → Nat} (hX : h 0 = x_x) (hD : h 1 = x_dy n) (hG : h 2 = x_sg cs) (hok : okD n cs) {L w : Nat} {b : Bd} (hB : h 9 = x_bd L w b) (hb : okB L b) (hw : w ≤ 2) (j : Nat) (hj : j < n) : x_Ct (d + 3) mX4_step [.ref 0, .int (nI j)] h (fun r h' => r = none ∧ h' = x_up h 9 (x_bd L w (bst w L cs j b))) := by
  have hn := hok.1
  have hcd : cd n cs (nI j) = cs j := cd_in hj hn
  refine x_enter pnX4_step (Nat.le_of_ble_eq_true rfl) ?_
  refine x_aload_n (i := 0) dX4_step_0 rfl rfl ?_
  refine x_get flX4_12 dX4_step_1 (by first | assumption | decide) (by first | assumption | exact x_up_s | (refine (x_up_n (by first | assumption | decide)).trans ?_; first | assumption | exact x_up_s | (refine (x_up_n (by first | assumption | decide)).trans ?_; first | assumption | exact x_up_s | (refine (x_up_n (by first | assumption | decide)).trans ?_; first | assumption | exact x_up_s | (refine (x_up_n (by first | assumption | decide)).trans ?_; first | assumption | exact x_up_s | (refine (x_up_n (by first | assumption | decide)).trans ?_; first | assumption | exact x_up_s | (refine (x_up_n (by first | assumption | decide)).trans ?_; first | assumption | exact x_up_s | (refine (x_up_n (by first | assumption | decide)).trans ?_; first | assumption | exact x_up_s)))))))) rfl ?_
  refine x_iload_n (i := 1) dX4_step_4 rfl rfl ?_
  refine x_invV clX4_183 dX4_step_5 (cD_crosser (d + 1) h hD hG hok (nI j)) (by omega) rfl (by first | assumption | decide) (by first | assumption | exact x_up_s | (refine (x_up_n (by first | assumption | decide)).trans ?_; first | assumption | exact x_up_s | (refine (x_up_n (by first | assumption | decide)).trans ?_; first | assumption | exact x_up_s | (refine (x_up_n (by first | assumption | decide)).trans ?_; first | assumption | exact x_up_s | (refine (x_up_n (by first | assumption | decide)).trans ?_; first | assumption | exact x_up_s | (refine (x_up_n (by first | assumption | decide)).trans ?_; first | assumption | exact x_up_s | (refine (x_up_n (by first | assumption | decide)).trans ?_; first | assumption | exact x_up_s | (refine (x_up_n (by first | assumption | decide)).trans ?_; first | assumption | exact x_up_s)))))))) rfl (Nat.le_of_ble_eq_true rfl) ?_
  rintro r h' ⟨rfl, rfl⟩
  rw [hcd]
  unfold bst
  cases hc : crN (cs j) with
  | none =>
    refine x_istore_n (i := 2) dX4_step_8 rfl (by decide) ?_
    refine x_iload_n (i := 2) dX4_step_9 rfl rfl ?_
    refine x_iconst (v := (-1)) dX4_step_10 (by decide) ?_
    refine x_icmp_eq 23 dX4_step_11 (by decide) (fun _ => ?_) (fun hc => absurd (rfl) hc)
    refine x_vret dX4_step_23 rfl ⟨rfl, (x_up_eta hB).symm⟩
  | some p =>
    have hp := crN_lt hc
    refine x_istore_n (i := 2) dX4_step_8 rfl (by decide) ?_
    refine x_iload_n (i := 2) dX4_step_9 rfl rfl ?_
    refine x_iconst (v := (-1)) dX4_step_10 (by decide) ?_
    refine x_icmp_eq 23 dX4_step_11 (by decide) (fun hc => absurd hc (nI_neg1 (by omega))) (fun _ => ?_)
    refine x_aload_n (i := 0) dX4_step_14 rfl rfl ?_
    refine x_get flX4_34 dX4_step_15 (by first | assumption | decide) (by first | assumption | exact x_up_s | (refine (x_up_n (by first | assumption | decide)).trans ?_; first | assumption | exact x_up_s | (refine (x_up_n (by first | assumption | decide)).trans ?_; first | assumption | exact x_up_s | (refine (x_up_n (by first | assumption | decide)).trans ?_; first | assumption | exact x_up_s | (refine (x_up_n (by first | assumption | decide)).trans ?_; first | assumption | exact x_up_s | (refine (x_up_n (by first | assumption | decide)).trans ?_; first | assumption | exact x_up_s | (refine (x_up_n (by first | assumption | decide)).trans ?_; first | assumption | exact x_up_s | (refine (x_up_n (by first | assumption | decide)).trans ?_; first | assumption | exact x_up_s)))))))) rfl ?_
    refine x_iload_n (i := 2) dX4_step_18 rfl rfl ?_
    refine x_iload_n (i := 1) dX4_step_19 rfl rfl ?_
    refine x_invV clX4_197 dX4_step_20 (cB_write d 9 (by decide) h' hB hb hw p (by omega) (nI j) (j + 1) (by omega) (nI_1 j)) (by omega) rfl (by first | assumption | decide) (by first | assumption | exact x_up_s | (refine (x_up_n (by first | assumption | decide)).trans ?_; first | assumption | exact x_up_s | (refine (x_up_n (by first | assumption | decide)).trans ?_; first | assumption | exact x_up_s | (refine (x_up_n (by first | assumption | decide)).trans ?_; first | assumption | exact x_up_s | (refine (x_up_n (by first | assumption | decide)).trans ?_; first | assumption | exact x_up_s | (refine (x_up_n (by first | assumption | decide)).trans ?_; first | assumption | exact x_up_s | (refine (x_up_n (by first | assumption | decide)).trans ?_; first | assumption | exact x_up_s | (refine (x_up_n (by first | assumption | decide)).trans ?_; first | assumption | exact x_up_s)))))))) rfl (Nat.le_of_ble_eq_true rfl) ?_
    rintro r h'' ⟨rfl, rfl⟩
    refine x_vret dX4_step_23 rfl ⟨rfl, rfl⟩
set_option maxRecDepth 100000 in
set_option maxHeartbeats 4000000 in
theorem cX_runDay_loop (d : Nat) (h : x_H) {n : Nat} {cs : Nat → Nat} (hX : h 0 = x_x) (hD : h 1 = x_dy n) (hG : h 2 = x_sg cs) (hok : okD n cs) {L w : Nat} (hL1 : 1 ≤ L) (hL9 : L ≤ 9) (hw : w ≤ 2) (e : Nat) (he : e ≤ n) (i2 : Int32) (Q : Option Value → x_H → Prop) :
    ∀ (f j : Nat), j + f = e → Q none (x_up h 9 (x_bd L w (bdR w L cs e))) → x_V (d + 4) mX4_runDay 17 (x_ls [some (.ref 0), some (.int (nI e)), some (.int i2), some (.int (nI j))]) [] (x_up h 9 (x_bd L w (bdR w L cs j))) Q := by
  have hn := hok.1
  intro f
  induction f with
  | zero =>
    intro j hj hq
    refine x_iload_n (i := 3) dX4_runDay_17 rfl rfl ?_
    refine x_iload_n (i := 1) dX4_runDay_18 rfl rfl ?_
    refine x_icmp_ge 33 dX4_runDay_19 (by decide) (fun _ => ?_) (fun hc => absurd (nI_le (by omega) (by omega)) hc)
    rw [show j = e by omega]
    refine x_vret dX4_runDay_33 rfl hq
  | succ f ih =>
    intro j hj hq
    refine x_iload_n (i := 3) dX4_runDay_17 rfl rfl ?_
    refine x_iload_n (i := 1) dX4_runDay_18 rfl rfl ?_
    refine x_icmp_ge 33 dX4_runDay_19 (by decide) (fun hc => absurd hc (nI_ge (by omega) (by omega))) (fun _ => ?_)
    refine x_aload_n (i := 0) dX4_runDay_22 rfl rfl ?_
    refine x_iload_n (i := 3) dX4_runDay_23 rfl rfl ?_
    refine x_invV clX4_96 dX4_runDay_24 (cX_step d _ (by first | assumption | exact x_up_s | (refine (x_up_n (by first | assumption | decide)).trans ?_; first | assumption | exact x_up_s | (refine (x_up_n (by first | assumption | decide)).trans ?_; first | assumption | exact x_up_s | (refine (x_up_n (by first | assumption | decide)).trans ?_; first | assumption | exact x_up_s | (refine (x_up_n (by first | assumption | decide)).trans ?_; first | assumption | exact x_up_s | (refine (x_up_n (by first | assumption | decide)).trans ?_; first | assumption | exact x_up_s | (refine (x_up_n (by first | assumption | decide)).trans ?_; first | assumption | exact x_up_s | (refine (x_up_n (by first | assumption | decide)).trans ?_; first | assumption | exact x_up_s)))))))) (by first | assumption | exact x_up_s | (refine (x_up_n (by first | assumption | decide)).trans ?_; first | assumption | exact x_up_s | (refine (x_up_n (by first | assumption | decide)).trans ?_; first | assumption | exact x_up_s | (refine (x_up_n (by first | assumption | decide)).trans ?_; first | assumption | exact x_up_s | (refine (x_up_n (by first | assumption | decide)).trans ?_; first | assumption | exact x_up_s | (refine (x_up_n (by first | assumption | decide)).trans ?_; first | assumption | exact x_up_s | (refine (x_up_n (by first | assumption | decide)).trans ?_; first | assumption | exact x_up_s | (refine (x_up_n (by first | assumption | decide)).trans ?_; first | assumption | exact x_up_s)))))))) (by first | assumption | exact x_up_s | (refine (x_up_n (by first | assumption | decide)).trans ?_; first | assumption | exact x_up_s | (refine (x_up_n (by first | assumption | decide)).trans ?_; first | assumption | exact x_up_s | (refine (x_up_n (by first | assumption | decide)).trans ?_; first | assumption | exact x_up_s | (refine (x_up_n (by first | assumption | decide)).trans ?_; first | assumption | exact x_up_s | (refine (x_up_n (by first | assumption | decide)).trans ?_; first | assumption | exact x_up_s | (refine (x_up_n (by first | assumption | decide)).trans ?_; first | assumption | exact x_up_s | (refine (x_up_n (by first | assumption | decide)).trans ?_; first | assumption | exact x_up_s)))))))) hok x_up_s (okB_bdR hL1 hL9 (by omega)) hw j (by omega)) (by omega) rfl (by first | assumption | decide) (by first | assumption | exact x_up_s | (refine (x_up_n (by first | assumption | decide)).trans ?_; first | assumption | exact x_up_s | (refine (x_up_n (by first | assumption | decide)).trans ?_; first | assumption | exact x_up_s | (refine (x_up_n (by first | assumption | decide)).trans ?_; first | assumption | exact x_up_s | (refine (x_up_n (by first | assumption | decide)).trans ?_; first | assumption | exact x_up_s | (refine (x_up_n (by first | assumption | decide)).trans ?_; first | assumption | exact x_up_s | (refine (x_up_n (by first | assumption | decide)).trans ?_; first | assumption | exact x_up_s | (refine (x_up_n (by first | assumption | decide)).trans ?_; first | assumption | exact x_up_s)))))))) rfl (Nat.le_of_ble_eq_true rfl) ?_
    rintro r h'' ⟨rfl, rfl⟩
    rw [x_up_up]
    first | refine x_incN dX4_runDay_27 rfl (by decide) ?_ | refine x_iinc dX4_runDay_27 rfl rfl (by decide) ?_
    refine x_goto 17 dX4_runDay_30 (by decide) ?_
    exact x_wk (ih (j + 1) (by omega) hq) ⟨rfl, rfl, rfl, rfl, trivial⟩
set_option maxRecDepth 100000 in
set_option maxHeartbeats 4000000 in
theorem cX_runDay (d : Nat) (h : x_H) {n : Nat} {cs : Nat → Nat} (hX : h 0 = x_x) (hD : h 1 = x_dy n) (hG : h 2 = x_sg cs) (hok : okD n cs) {L w q : Nat} (hS : h 3 = x_st L w q) (hL1 : 1 ≤ L) (hL9 : L ≤ 9) (hw : w ≤ 2) {i1 i2 : Int32} {l1 l2 l3 l4 : Int64} (hB : h 9 = x_bd0 i1 i2 l1 l2 l3 l4) (K e : Nat) (hK1 : 1 ≤ K) (hK9 : K ≤ 9) (he : e ≤ n) : x_Ct (d + 4) mX4_runDay [.ref 0, .int (nI e), .int (nI K)] h (fun r h' => r = none ∧ h' = x_up h 9 (x_bd K w (bdR w K cs e))) := by
  refine x_enter pnX4_runDay (Nat.le_of_ble_eq_true rfl) ?_
  refine x_aload_n (i := 0) dX4_runDay_0 rfl rfl ?_
  refine x_get flX4_34 dX4_runDay_1 (by first | assumption | decide) (by first | assumption | exact x_up_s | (refine (x_up_n (by first | assumption | decide)).trans ?_; first | assumption | exact x_up_s | (refine (x_up_n (by first | assumption | decide)).trans ?_; first | assumption | exact x_up_s | (refine (x_up_n (by first | assumption | decide)).trans ?_; first | assumption | exact x_up_s | (refine (x_up_n (by first | assumption | decide)).trans ?_; first | assumption | exact x_up_s | (refine (x_up_n (by first | assumption | decide)).trans ?_; first | assumption | exact x_up_s | (refine (x_up_n (by first | assumption | decide)).trans ?_; first | assumption | exact x_up_s | (refine (x_up_n (by first | assumption | decide)).trans ?_; first | assumption | exact x_up_s)))))))) rfl ?_
  refine x_iload_n (i := 2) dX4_runDay_4 rfl rfl ?_
  refine x_aload_n (i := 0) dX4_runDay_5 rfl rfl ?_
  refine x_get flX4_19 dX4_runDay_6 (by first | assumption | decide) (by first | assumption | exact x_up_s | (refine (x_up_n (by first | assumption | decide)).trans ?_; first | assumption | exact x_up_s | (refine (x_up_n (by first | assumption | decide)).trans ?_; first | assumption | exact x_up_s | (refine (x_up_n (by first | assumption | decide)).trans ?_; first | assumption | exact x_up_s | (refine (x_up_n (by first | assumption | decide)).trans ?_; first | assumption | exact x_up_s | (refine (x_up_n (by first | assumption | decide)).trans ?_; first | assumption | exact x_up_s | (refine (x_up_n (by first | assumption | decide)).trans ?_; first | assumption | exact x_up_s | (refine (x_up_n (by first | assumption | decide)).trans ?_; first | assumption | exact x_up_s)))))))) rfl ?_
  refine x_get flX4_65 dX4_runDay_9 (by first | assumption | decide) (by first | assumption | exact x_up_s | (refine (x_up_n (by first | assumption | decide)).trans ?_; first | assumption | exact x_up_s | (refine (x_up_n (by first | assumption | decide)).trans ?_; first | assumption | exact x_up_s | (refine (x_up_n (by first | assumption | decide)).trans ?_; first | assumption | exact x_up_s | (refine (x_up_n (by first | assumption | decide)).trans ?_; first | assumption | exact x_up_s | (refine (x_up_n (by first | assumption | decide)).trans ?_; first | assumption | exact x_up_s | (refine (x_up_n (by first | assumption | decide)).trans ?_; first | assumption | exact x_up_s | (refine (x_up_n (by first | assumption | decide)).trans ?_; first | assumption | exact x_up_s)))))))) rfl ?_
  refine x_invV clX4_93 dX4_runDay_12 (cB_begin d 9 (by decide) h hB K w hK9) (by omega) rfl (by first | assumption | decide) (by first | assumption | exact x_up_s | (refine (x_up_n (by first | assumption | decide)).trans ?_; first | assumption | exact x_up_s | (refine (x_up_n (by first | assumption | decide)).trans ?_; first | assumption | exact x_up_s | (refine (x_up_n (by first | assumption | decide)).trans ?_; first | assumption | exact x_up_s | (refine (x_up_n (by first | assumption | decide)).trans ?_; first | assumption | exact x_up_s | (refine (x_up_n (by first | assumption | decide)).trans ?_; first | assumption | exact x_up_s | (refine (x_up_n (by first | assumption | decide)).trans ?_; first | assumption | exact x_up_s | (refine (x_up_n (by first | assumption | decide)).trans ?_; first | assumption | exact x_up_s)))))))) rfl (Nat.le_of_ble_eq_true rfl) ?_
  rintro r h'' ⟨rfl, rfl⟩
  refine x_iconst (v := 0) dX4_runDay_15 (by decide) ?_
  refine x_istore_n (i := 3) dX4_runDay_16 rfl (by decide) ?_
  exact x_wk (cX_runDay_loop d h hX hD hG hok hK1 hK9 hw e he _ _ e 0 (by omega) ⟨rfl, rfl⟩) ⟨rfl, rfl, rfl, rfl, trivial⟩
