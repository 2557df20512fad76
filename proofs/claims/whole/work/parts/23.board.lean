theorem wd_lo {r a : Nat} (hr : r < 2 ^ 64) (ha : a < 63) : lN r &&& ((1 : Int64) <<< ((nI a).toInt64 &&& 63) - 1) = lN (r % 2 ^ a) := by
  have h2 : 2 ^ a < 2 ^ 64 := Nat.pow_lt_pow_right (by decide) (by omega)
  have e : (1 : Int64) <<< ((nI a).toInt64 &&& 63) = lN (2 ^ a) := by
    have := q_shl (n := 1) (k := a) (by omega) (by omega)
    rw [Nat.one_mul] at this
    exact this
  rw [e, q_sub1 (Nat.two_pow_pos a), q_mask hr (by omega)]
theorem wd_hi {r a c : Nat} (hr : r < 2 ^ 64) (ha : a + c < 64) : ((lN r).toUInt64 >>> ((nI a + nI c).toInt64.toUInt64 &&& Int64.toUInt64 63)).toInt64 = lN (r / 2 ^ (a + c)) := by
  rw [nI_add, q_shr hr ha]
theorem wd_lt {r a c : Nat} (hr : r < 2 ^ 63) : r / 2 ^ (a + c) * 2 ^ a < 2 ^ 64 := by
  have h1 : r / 2 ^ (a + c) * 2 ^ a ≤ r := by
    have h2 : r / 2 ^ (a + c) * 2 ^ (a + c) ≤ r := Nat.div_mul_le_self _ _
    refine Nat.le_trans (Nat.mul_le_mul_left _ (Nat.pow_le_pow_right (by decide) (Nat.le_add_right a c))) h2
  omega
set_option maxRecDepth 100000 in
set_option maxHeartbeats 4000000 in
theorem cB_withoutDigit (d : Nat) (h : x_H) (r a c : Nat) (hr : r < 2 ^ 63) (ha : a + c < 63) : x_Ct d mX0_withoutDigit [.long (lN r), .int (nI a), .int (nI c)] h (fun x h' => x = some (.long (lN (r / 2 ^ (a + c) * 2 ^ a + r % 2 ^ a))) ∧ h' = h) := by
  refine x_enter pnX0_withoutDigit (Nat.le_of_ble_eq_true rfl) ?_
  refine x_lload_n (i := 0) dX0_withoutDigit_0 rfl rfl ?_
  refine x_lconst (v := 1) dX0_withoutDigit_1 (by decide) ?_
  refine x_iload_n (i := 2) dX0_withoutDigit_2 rfl rfl ?_
  refine x_lshl dX0_withoutDigit_3 ?_
  refine x_lconst (v := 1) dX0_withoutDigit_4 (by decide) ?_
  refine x_lsub dX0_withoutDigit_5 ?_
  refine x_land dX0_withoutDigit_6 ?_
  refine x_topl (wd_lo (by omega) (by omega)) ?_
  refine x_lstore dX0_withoutDigit_7 (by decide) ?_
  refine x_lload_n (i := 0) dX0_withoutDigit_9 rfl rfl ?_
  refine x_iload_n (i := 2) dX0_withoutDigit_10 rfl rfl ?_
  refine x_iload_n (i := 3) dX0_withoutDigit_11 rfl rfl ?_
  refine x_iadd dX0_withoutDigit_12 ?_
  refine x_lushr dX0_withoutDigit_13 ?_
  refine x_topl (wd_hi (by omega) (by omega)) ?_
  refine x_lstore dX0_withoutDigit_14 (by decide) ?_
  refine x_lload dX0_withoutDigit_16 rfl ?_
  refine x_iload_n (i := 2) dX0_withoutDigit_18 rfl rfl ?_
  refine x_lshl dX0_withoutDigit_19 ?_
  refine x_lload dX0_withoutDigit_20 rfl ?_
  refine x_lor dX0_withoutDigit_22 ?_
  have hlt := wd_lt (r := r) (a := a) (c := c) hr
  refine x_topl (y := lN (r / 2 ^ (a + c) * 2 ^ a + r % 2 ^ a)) ?_ ?_
  · rw [q_shl hlt (by omega), q_or_dj (Nat.mod_lt _ (Nat.two_pow_pos a)) hlt (by omega)]
  refine x_lret dX0_withoutDigit_23 rfl ⟨rfl, rfl⟩
theorem bN_mod (e : Nat × Nat) (c : Bd) (h : e.1 ≤ 8) : bN (e :: c) % 2 ^ 4 = e.1 + 1 := by
  unfold bN
  exact dg_mod (B := 16) (by decide) _ (by show e.1 + 1 < 16; omega)
theorem bN_div (e : Nat × Nat) (c : Bd) (h : e.1 ≤ 8) : bN (e :: c) / 2 ^ 4 = bN c := by
  unfold bN
  exact dg_div (B := 16) (by decide) _ (by show e.1 + 1 < 16; omega)
theorem bN_36 {c : Bd} (h : ∀ q ∈ c, q.1 ≤ 8) (hl : c.length ≤ 9) : bN c < 2 ^ 36 := by
  have h1 := dg_lt (B := 16) (by decide) (c.map (fun q => q.1 + 1)) (by
    intro x hx
    obtain ⟨q, hq, rfl⟩ := List.mem_map.mp hx
    have := h q hq
    omega)
  rw [List.length_map, pow16] at h1
  exact Nat.lt_of_lt_of_le h1 (Nat.pow_le_pow_right (by decide) (by omega))
set_option maxRecDepth 100000 in
set_option maxHeartbeats 4000000 in
theorem cB_placeOf_loop (d k : Nat) (hk : k < x_N) (h : x_H) {L w : Nat} {b0 : Bd} (hB : h k = x_bd L w b0) (hL : L ≤ 9) (nm : Nat) (hnm : nm ≤ 8) (Q : Option Value → x_H → Prop) :
    ∀ (c : Bd) (i : Nat), (∀ q ∈ c, q.1 ≤ 8) → i + c.length ≤ L → Q (some (.int (oI ((bfind nm c).map (· + i))))) h →
      x_V d mX0_placeOf 15 (x_ls [some (.ref k), some (.int (nI nm)), some (.long (lN (bN c))), none, some (.int (nI i))]) [] h Q := by
  intro c
  induction c with
  | nil =>
    intro i _ _ hq
    refine x_iload dX0_placeOf_15 rfl ?_
    refine x_aload_n (i := 0) dX0_placeOf_17 rfl rfl ?_
    refine x_get flX0_11 dX0_placeOf_18 (by first | decide | assumption) (by first | assumption | exact x_up_s | (refine (x_up_n (by first | decide | assumption)).trans ?_; first | assumption | exact x_up_s | (refine (x_up_n (by first | decide | assumption)).trans ?_; first | assumption | exact x_up_s | (refine (x_up_n (by first | decide | assumption)).trans ?_; first | assumption | exact x_up_s | (refine (x_up_n (by first | decide | assumption)).trans ?_; first | assumption | exact x_up_s | (refine (x_up_n (by first | decide | assumption)).trans ?_; first | assumption | exact x_up_s | (refine (x_up_n (by first | decide | assumption)).trans ?_; first | assumption | exact x_up_s | (refine (x_up_n (by first | decide | assumption)).trans ?_; first | assumption | exact x_up_s | (refine (x_up_n (by first | decide | assumption)).trans ?_; first | assumption | exact x_up_s | (refine (x_up_n (by first | decide | assumption)).trans ?_; first | assumption | exact x_up_s | (refine (x_up_n (by first | decide | assumption)).trans ?_; first | assumption | exact x_up_s | (refine (x_up_n (by first | decide | assumption)).trans ?_; first | assumption | exact x_up_s | (refine (x_up_n (by first | decide | assumption)).trans ?_; first | assumption | exact x_up_s | (refine (x_up_n (by first | decide | assumption)).trans ?_; first | assumption | exact x_up_s)))))))))))))) rfl ?_
    refine x_icmp_ge 56 dX0_placeOf_21 (by decide) (fun hc => ?_) (fun hc => ?_)
    · refine x_iconst (v := (-1)) dX0_placeOf_56 (by decide) ?_
      refine x_iret dX0_placeOf_57 rfl hq
    · refine x_lload_n (i := 2) dX0_placeOf_24 rfl rfl ?_
      refine x_lconst (v := 0) dX0_placeOf_25 (by decide) ?_
      refine x_lcmp dX0_placeOf_26 ?_
      refine x_if_eq 56 dX0_placeOf_27 (by decide) (fun hc => ?_) (fun hc => ?_)
      · refine x_iconst (v := (-1)) dX0_placeOf_56 (by decide) ?_
        refine x_iret dX0_placeOf_57 rfl hq
      · exact absurd ((lg_cmp0 _ _).mpr rfl) hc
  | cons e c ih =>
    intro i hc8 hlen hq
    have he := hc8 e List.mem_cons_self
    have hlc : (e :: c).length = c.length + 1 := rfl
    have h36 := bN_36 hc8 (by omega)
    have h36c := bN_36 (c := c) (fun q hq => hc8 q (List.mem_cons_of_mem _ hq)) (by omega)
    have hpos : bN (e :: c) ≠ 0 := by
      simp only [bN, List.map_cons, dg]; omega
    refine x_iload dX0_placeOf_15 rfl ?_
    refine x_aload_n (i := 0) dX0_placeOf_17 rfl rfl ?_
    refine x_get flX0_11 dX0_placeOf_18 (by first | decide | assumption) (by first | assumption | exact x_up_s | (refine (x_up_n (by first | decide | assumption)).trans ?_; first | assumption | exact x_up_s | (refine (x_up_n (by first | decide | assumption)).trans ?_; first | assumption | exact x_up_s | (refine (x_up_n (by first | decide | assumption)).trans ?_; first | assumption | exact x_up_s | (refine (x_up_n (by first | decide | assumption)).trans ?_; first | assumption | exact x_up_s | (refine (x_up_n (by first | decide | assumption)).trans ?_; first | assumption | exact x_up_s | (refine (x_up_n (by first | decide | assumption)).trans ?_; first | assumption | exact x_up_s | (refine (x_up_n (by first | decide | assumption)).trans ?_; first | assumption | exact x_up_s | (refine (x_up_n (by first | decide | assumption)).trans ?_; first | assumption | exact x_up_s | (refine (x_up_n (by first | decide | assumption)).trans ?_; first | assumption | exact x_up_s | (refine (x_up_n (by first | decide | assumption)).trans ?_; first | assumption | exact x_up_s | (refine (x_up_n (by first | decide | assumption)).trans ?_; first | assumption | exact x_up_s | (refine (x_up_n (by first | decide | assumption)).trans ?_; first | assumption | exact x_up_s | (refine (x_up_n (by first | decide | assumption)).trans ?_; first | assumption | exact x_up_s)))))))))))))) rfl ?_
    refine x_icmp_ge 56 dX0_placeOf_21 (by decide) (fun hc => absurd hc (nI_ge (by omega) (by omega))) (fun _ => ?_)
    refine x_lload_n (i := 2) dX0_placeOf_24 rfl rfl ?_
    refine x_lconst (v := 0) dX0_placeOf_25 (by decide) ?_
    refine x_lcmp dX0_placeOf_26 ?_
    refine x_if_eq 56 dX0_placeOf_27 (by decide) (fun hc => ?_) (fun hc => ?_)
    · exact absurd ((pk_lEQ (a := bN (e :: c)) (b := 0) (by omega) (by decide)).mp ((lg_cmp0 _ _).mp hc)) hpos
    · refine x_lload_n (i := 2) dX0_placeOf_30 rfl rfl ?_
      refine x_ldc2 cnX0_39 dX0_placeOf_31 ?_
      refine x_land dX0_placeOf_34 ?_
      refine x_iload_n (i := 1) dX0_placeOf_35 rfl rfl ?_
      refine x_iconst (v := 1) dX0_placeOf_36 (by decide) ?_
      refine x_iadd dX0_placeOf_37 ?_
      refine x_i2l dX0_placeOf_38 ?_
      refine x_lcmp dX0_placeOf_39 ?_
      have e1 : lN (bN (e :: c)) &&& 15 = lN (e.1 + 1) := by
        rw [← bN_mod e c he, ← q_mask (by omega) (by decide)]; rfl
      have e2 : (nI nm + 1).toInt64 = lN (nm + 1) := by rw [nI_1, nI_toL (by omega)]
      have e3 : bfind nm (e :: c) = if e.1 = nm then some 0 else (bfind nm c).map (· + 1) := by
        simp only [bfind, List.findIdx?_cons, beq_iff_eq]
      refine x_if_ne 46 dX0_placeOf_40 (by decide) (fun hd => ?_) (fun hd => ?_)
      · have hne : e.1 ≠ nm := by
          intro heq
          exact hd ((lg_cmp0 _ _).mpr (by rw [e1, e2, heq]))
        refine x_lload_n (i := 2) dX0_placeOf_46 rfl rfl ?_
        refine x_iconst (v := 4) dX0_placeOf_47 (by decide) ?_
        refine x_lushr dX0_placeOf_48 ?_
        refine x_topl (y := lN (bN c)) (by rw [← bN_div e c he]; exact q_shr (k := 4) (by omega) (by decide)) ?_
        refine x_lstore_n (i := 2) dX0_placeOf_49 rfl (by decide) ?_
        first | refine x_incN dX0_placeOf_50 rfl (by decide) ?_ | refine x_iinc dX0_placeOf_50 rfl rfl (by decide) ?_
        refine x_goto 15 dX0_placeOf_53 (by decide) ?_
        refine x_wk (ih (i + 1) (fun q hq => hc8 q (List.mem_cons_of_mem _ hq)) (by omega) ?_) ⟨rfl, rfl, rfl, rfl, trivial⟩
        rw [e3, if_neg hne, Option.map_map] at hq
        have e4 : ((fun x => x + i) ∘ fun x => x + 1) = (fun x => x + (i + 1)) := by funext x; simp; omega
        rw [e4] at hq
        exact hq
      · have heq : e.1 = nm := by
          have := (lg_cmp0 _ _).mp hd
          rw [e1, e2] at this
          have := (pk_lEQ (by omega) (by omega)).mp this
          omega
        refine x_iload dX0_placeOf_43 rfl ?_
        rw [e3, if_pos heq] at hq
        simp only [Option.map_some, Nat.zero_add, oI] at hq
        refine x_iret dX0_placeOf_45 rfl hq
set_option maxRecDepth 100000 in
set_option maxHeartbeats 4000000 in
theorem cB_placeOf (d k : Nat) (hk : k < x_N) (h : x_H) {L w : Nat} {b : Bd} (hB : h k = x_bd L w b) (hok : okB L b) (nm : Nat) (hnm : nm ≤ 8) : x_Ct d mX0_placeOf [.ref k, .int (nI nm)] h (fun r h' => r = some (.int (oI (bfind nm b))) ∧ h' = h) := by
  refine x_enter pnX0_placeOf (Nat.le_of_ble_eq_true rfl) ?_
  refine x_iload_n (i := 1) dX0_placeOf_0 rfl rfl ?_
  refine x_iconst (v := (-1)) dX0_placeOf_1 (by decide) ?_
  refine x_icmp_ne 7 dX0_placeOf_2 (by decide) (fun hc => ?_) (fun hc => ?_)
  · refine x_aload_n (i := 0) dX0_placeOf_7 rfl rfl ?_
    refine x_get flX0_25 dX0_placeOf_8 (by first | decide | assumption) (by first | assumption | exact x_up_s | (refine (x_up_n (by first | decide | assumption)).trans ?_; first | assumption | exact x_up_s | (refine (x_up_n (by first | decide | assumption)).trans ?_; first | assumption | exact x_up_s | (refine (x_up_n (by first | decide | assumption)).trans ?_; first | assumption | exact x_up_s | (refine (x_up_n (by first | decide | assumption)).trans ?_; first | assumption | exact x_up_s | (refine (x_up_n (by first | decide | assumption)).trans ?_; first | assumption | exact x_up_s | (refine (x_up_n (by first | decide | assumption)).trans ?_; first | assumption | exact x_up_s | (refine (x_up_n (by first | decide | assumption)).trans ?_; first | assumption | exact x_up_s | (refine (x_up_n (by first | decide | assumption)).trans ?_; first | assumption | exact x_up_s | (refine (x_up_n (by first | decide | assumption)).trans ?_; first | assumption | exact x_up_s | (refine (x_up_n (by first | decide | assumption)).trans ?_; first | assumption | exact x_up_s | (refine (x_up_n (by first | decide | assumption)).trans ?_; first | assumption | exact x_up_s | (refine (x_up_n (by first | decide | assumption)).trans ?_; first | assumption | exact x_up_s | (refine (x_up_n (by first | decide | assumption)).trans ?_; first | assumption | exact x_up_s)))))))))))))) rfl ?_
    refine x_lstore_n (i := 2) dX0_placeOf_11 rfl (by decide) ?_
    refine x_iconst (v := 0) dX0_placeOf_12 (by decide) ?_
    refine x_istore dX0_placeOf_13 (by decide) ?_
    refine x_wk (cB_placeOf_loop d k hk h hB hok.2.1 nm hnm _ b 0 (fun q hq => (hok.2.2.2 q hq).1) (by have := hok.2.2.1; omega) ?_) ⟨rfl, rfl, rfl, rfl, trivial⟩
    refine ⟨?_, rfl⟩
    have : (fun x : Nat => x + 0) = id := by funext x; simp
    rw [this, Option.map_id]; rfl
  · exact absurd hc (nI_neg1 (by omega))
set_option maxRecDepth 100000 in
set_option maxHeartbeats 4000000 in
theorem cB_placeOf_m1 (d k : Nat) (h : x_H) : x_Ct d mX0_placeOf [.ref k, .int (-1)] h (fun r h' => r = some (.int (-1)) ∧ h' = h) := by
  refine x_enter pnX0_placeOf (Nat.le_of_ble_eq_true rfl) ?_
  refine x_iload_n (i := 1) dX0_placeOf_0 rfl rfl ?_
  refine x_iconst (v := (-1)) dX0_placeOf_1 (by decide) ?_
  refine x_icmp_ne 7 dX0_placeOf_2 (by decide) (fun hc => ?_) (fun hc => ?_)
  · exact absurd rfl hc
  · refine x_iconst (v := (-1)) dX0_placeOf_5 (by decide) ?_
    refine x_iret dX0_placeOf_6 rfl ⟨rfl, rfl⟩
set_option maxRecDepth 100000 in
set_option maxHeartbeats 4000000 in
theorem cB_removeAt (d k : Nat) (hk : k < x_N) (h : x_H) {L w : Nat} {b : Bd} (hB : h k = x_bd L w b) (hok : okB L b) (p : Nat) (hp : p ≤ 8) : x_Ct (d + 1) mX0_removeAt [.ref k, .int (nI p)] h (fun r h' => r = none ∧ h' = x_up h k (x_bd L w (b.eraseIdx p))) := by
  have hN := okB_N36 hok
  have hW := okB_W54 hok
  refine x_enter pnX0_removeAt (Nat.le_of_ble_eq_true rfl) ?_
  refine x_iload_n (i := 1) dX0_removeAt_0 rfl rfl ?_
  refine x_iconst (v := (-1)) dX0_removeAt_1 (by decide) ?_
  refine x_icmp_eq 37 dX0_removeAt_2 (by decide) (fun hc => absurd hc (nI_neg1 (by omega))) (fun _ => ?_)
  refine x_aload_n (i := 0) dX0_removeAt_5 rfl rfl ?_
  refine x_aload_n (i := 0) dX0_removeAt_6 rfl rfl ?_
  refine x_get flX0_25 dX0_removeAt_7 (by first | decide | assumption) (by first | assumption | exact x_up_s | (refine (x_up_n (by first | decide | assumption)).trans ?_; first | assumption | exact x_up_s | (refine (x_up_n (by first | decide | assumption)).trans ?_; first | assumption | exact x_up_s | (refine (x_up_n (by first | decide | assumption)).trans ?_; first | assumption | exact x_up_s | (refine (x_up_n (by first | decide | assumption)).trans ?_; first | assumption | exact x_up_s | (refine (x_up_n (by first | decide | assumption)).trans ?_; first | assumption | exact x_up_s | (refine (x_up_n (by first | decide | assumption)).trans ?_; first | assumption | exact x_up_s | (refine (x_up_n (by first | decide | assumption)).trans ?_; first | assumption | exact x_up_s | (refine (x_up_n (by first | decide | assumption)).trans ?_; first | assumption | exact x_up_s | (refine (x_up_n (by first | decide | assumption)).trans ?_; first | assumption | exact x_up_s | (refine (x_up_n (by first | decide | assumption)).trans ?_; first | assumption | exact x_up_s | (refine (x_up_n (by first | decide | assumption)).trans ?_; first | assumption | exact x_up_s | (refine (x_up_n (by first | decide | assumption)).trans ?_; first | assumption | exact x_up_s | (refine (x_up_n (by first | decide | assumption)).trans ?_; first | assumption | exact x_up_s)))))))))))))) rfl ?_
  refine x_iconst (v := 4) dX0_removeAt_10 (by decide) ?_
  refine x_iload_n (i := 1) dX0_removeAt_11 rfl rfl ?_
  refine x_imul dX0_removeAt_12 ?_
  refine x_topi (nl_mul 4 p) ?_
  refine x_iconst (v := 4) dX0_removeAt_13 (by decide) ?_
  refine x_invS clX0_57 dX0_removeAt_14 (cB_withoutDigit d h (bN b) (4 * p) 4 (by omega) (by omega)) (by omega) rfl rfl (Nat.le_of_ble_eq_true rfl) ?_
  rintro r h' ⟨rfl, rfl⟩
  refine x_topl (congrArg lN (bN_erase hok p)) ?_
  refine x_put fpX0_25 dX0_removeAt_17 (by first | decide | assumption) (by first | assumption | exact x_up_s | (refine (x_up_n (by first | decide | assumption)).trans ?_; first | assumption | exact x_up_s | (refine (x_up_n (by first | decide | assumption)).trans ?_; first | assumption | exact x_up_s | (refine (x_up_n (by first | decide | assumption)).trans ?_; first | assumption | exact x_up_s | (refine (x_up_n (by first | decide | assumption)).trans ?_; first | assumption | exact x_up_s | (refine (x_up_n (by first | decide | assumption)).trans ?_; first | assumption | exact x_up_s | (refine (x_up_n (by first | decide | assumption)).trans ?_; first | assumption | exact x_up_s | (refine (x_up_n (by first | decide | assumption)).trans ?_; first | assumption | exact x_up_s | (refine (x_up_n (by first | decide | assumption)).trans ?_; first | assumption | exact x_up_s | (refine (x_up_n (by first | decide | assumption)).trans ?_; first | assumption | exact x_up_s | (refine (x_up_n (by first | decide | assumption)).trans ?_; first | assumption | exact x_up_s | (refine (x_up_n (by first | decide | assumption)).trans ?_; first | assumption | exact x_up_s | (refine (x_up_n (by first | decide | assumption)).trans ?_; first | assumption | exact x_up_s | (refine (x_up_n (by first | decide | assumption)).trans ?_; first | assumption | exact x_up_s)))))))))))))) rfl rfl (fun _ => rfl) (Nat.le_of_ble_eq_true rfl) rfl ?_
  refine x_aload_n (i := 0) dX0_removeAt_20 rfl rfl ?_
  refine x_aload_n (i := 0) dX0_removeAt_21 rfl rfl ?_
  refine x_get flX0_28 dX0_removeAt_22 (by first | decide | assumption) (by first | assumption | exact x_up_s | (refine (x_up_n (by first | decide | assumption)).trans ?_; first | assumption | exact x_up_s | (refine (x_up_n (by first | decide | assumption)).trans ?_; first | assumption | exact x_up_s | (refine (x_up_n (by first | decide | assumption)).trans ?_; first | assumption | exact x_up_s | (refine (x_up_n (by first | decide | assumption)).trans ?_; first | assumption | exact x_up_s | (refine (x_up_n (by first | decide | assumption)).trans ?_; first | assumption | exact x_up_s | (refine (x_up_n (by first | decide | assumption)).trans ?_; first | assumption | exact x_up_s | (refine (x_up_n (by first | decide | assumption)).trans ?_; first | assumption | exact x_up_s | (refine (x_up_n (by first | decide | assumption)).trans ?_; first | assumption | exact x_up_s | (refine (x_up_n (by first | decide | assumption)).trans ?_; first | assumption | exact x_up_s | (refine (x_up_n (by first | decide | assumption)).trans ?_; first | assumption | exact x_up_s | (refine (x_up_n (by first | decide | assumption)).trans ?_; first | assumption | exact x_up_s | (refine (x_up_n (by first | decide | assumption)).trans ?_; first | assumption | exact x_up_s | (refine (x_up_n (by first | decide | assumption)).trans ?_; first | assumption | exact x_up_s)))))))))))))) rfl ?_
  refine x_bipush (v := 6) dX0_removeAt_25 (by decide) ?_
  refine x_iload_n (i := 1) dX0_removeAt_27 rfl rfl ?_
  refine x_imul dX0_removeAt_28 ?_
  refine x_topi (nl_mul 6 p) ?_
  refine x_bipush (v := 6) dX0_removeAt_29 (by decide) ?_
  refine x_invS clX0_57 dX0_removeAt_31 (cB_withoutDigit d _ (bW b) (6 * p) 6 (by omega) (by omega)) (by omega) rfl rfl (Nat.le_of_ble_eq_true rfl) ?_
  rintro r h' ⟨rfl, rfl⟩
  refine x_topl (congrArg lN (bW_erase hok p)) ?_
  refine x_put fpX0_28 dX0_removeAt_34 (by first | decide | assumption) (by first | assumption | exact x_up_s | (refine (x_up_n (by first | decide | assumption)).trans ?_; first | assumption | exact x_up_s | (refine (x_up_n (by first | decide | assumption)).trans ?_; first | assumption | exact x_up_s | (refine (x_up_n (by first | decide | assumption)).trans ?_; first | assumption | exact x_up_s | (refine (x_up_n (by first | decide | assumption)).trans ?_; first | assumption | exact x_up_s | (refine (x_up_n (by first | decide | assumption)).trans ?_; first | assumption | exact x_up_s | (refine (x_up_n (by first | decide | assumption)).trans ?_; first | assumption | exact x_up_s | (refine (x_up_n (by first | decide | assumption)).trans ?_; first | assumption | exact x_up_s | (refine (x_up_n (by first | decide | assumption)).trans ?_; first | assumption | exact x_up_s | (refine (x_up_n (by first | decide | assumption)).trans ?_; first | assumption | exact x_up_s | (refine (x_up_n (by first | decide | assumption)).trans ?_; first | assumption | exact x_up_s | (refine (x_up_n (by first | decide | assumption)).trans ?_; first | assumption | exact x_up_s | (refine (x_up_n (by first | decide | assumption)).trans ?_; first | assumption | exact x_up_s | (refine (x_up_n (by first | decide | assumption)).trans ?_; first | assumption | exact x_up_s)))))))))))))) rfl rfl (fun _ => rfl) (Nat.le_of_ble_eq_true rfl) rfl ?_
  refine x_vret dX0_removeAt_37 rfl ⟨rfl, by rw [x_up_up]; rfl⟩
set_option maxRecDepth 100000 in
set_option maxHeartbeats 4000000 in
theorem cB_removeAt_m1 (d k : Nat) (h : x_H) : x_Ct d mX0_removeAt [.ref k, .int (-1)] h (fun r h' => r = none ∧ h' = h) := by
  refine x_enter pnX0_removeAt (Nat.le_of_ble_eq_true rfl) ?_
  refine x_iload_n (i := 1) dX0_removeAt_0 rfl rfl ?_
  refine x_iconst (v := (-1)) dX0_removeAt_1 (by decide) ?_
  refine x_icmp_eq 37 dX0_removeAt_2 (by decide) (fun _ => ?_) (fun hc => absurd (rfl) hc)
  refine x_vret dX0_removeAt_37 rfl ⟨rfl, rfl⟩
