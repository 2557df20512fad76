set_option maxRecDepth 100000 in
set_option maxHeartbeats 4000000 in
theorem c_isPerson (d : Nat) (h : x_H) (p : Int32) : x_Ct d mX4_isPerson [.int p] h (fun r h' => r = some (.int (if 0 ≤ p ∧ p < 8 then 1 else 0)) ∧ h' = h) := by
  refine x_enter pnX4_isPerson (Nat.le_of_ble_eq_true rfl) ?_
  refine x_iload_n (i := 0) dX4_isPerson_0 rfl rfl ?_
  refine x_if_lt 14 dX4_isPerson_1 (by decide) (fun hc => ?_) (fun hc => ?_)
  · refine x_iconst (v := 0) dX4_isPerson_14 (by decide) ?_
    refine x_zret dX4_isPerson_15 rfl (by first | rfl | decide | assumption) ⟨by rw [if_neg (fun q => absurd q.1 (Int32.not_le.mpr hc))], rfl⟩
  · refine x_iload_n (i := 0) dX4_isPerson_4 rfl rfl ?_
    refine x_bipush (v := 8) dX4_isPerson_5 (by decide) ?_
    refine x_icmp_ge 14 dX4_isPerson_7 (by decide) (fun hd => ?_) (fun hd => ?_)
    · refine x_iconst (v := 0) dX4_isPerson_14 (by decide) ?_
      refine x_zret dX4_isPerson_15 rfl (by first | rfl | decide | assumption) ⟨by rw [if_neg (fun q => absurd hd (Int32.not_le.mpr q.2))], rfl⟩
    · refine x_iconst (v := 1) dX4_isPerson_10 (by decide) ?_
      refine x_goto 15 dX4_isPerson_11 (by decide) ?_
      refine x_zret dX4_isPerson_15 rfl (by first | rfl | decide | assumption) ⟨by rw [if_pos ⟨Int32.not_lt.mp hc, Int32.not_le.mp hd⟩], rfl⟩
theorem isP_nI {p : Nat} (hp : p < 2 ^ 31) : (if 0 ≤ nI p ∧ nI p < 8 then (1 : Int32) else 0) = if p < 8 then 1 else 0 := by
  by_cases h : p < 8
  · rw [if_pos h, if_pos ⟨nI_pos' hp, (nI_ltI (b := 8) hp (by decide)).mpr h⟩]
  · rw [if_neg h, if_neg (fun q => h ((nI_ltI (b := 8) hp (by decide)).mp q.2))]
theorem isP_m1 : (if 0 ≤ (-1 : Int32) ∧ (-1 : Int32) < 8 then (1 : Int32) else 0) = 0 := by decide
theorem bN_at {L : Nat} {b : Bd} (h : okB L b) (p : Nat) : bN b / 2 ^ (4 * p) % 2 ^ 4 = match b[p]? with
    | some q => q.1 + 1
    | none => 0 := by
  have hd := okB_dN h
  rw [← pow16]
  unfold bN
  rw [dg_drop (by decide) p _ hd]
  cases hb : b[p]? with
  | none =>
    have : (b.map (fun q => q.1 + 1)).drop p = [] := List.drop_eq_nil_of_le (by simpa using List.getElem?_eq_none_iff.mp hb)
    rw [this]; rfl
  | some q =>
    have hp := (List.getElem?_eq_some_iff.mp hb).1
    have e : (b.map (fun q => q.1 + 1)).drop p = (q.1 + 1) :: (b.map (fun q => q.1 + 1)).drop (p + 1) := by
      rw [List.drop_eq_getElem_cons (by simpa using hp)]
      congr 1
      rw [List.getElem_map, (List.getElem?_eq_some_iff.mp hb).2]
    rw [e]
    have := (h.2.2.2 q (List.mem_of_getElem? hb)).1
    exact dg_mod (B := 16) (by decide) _ (by omega)
theorem bW_at {L : Nat} {b : Bd} (h : okB L b) (p : Nat) : bW b / 2 ^ (6 * p) % 2 ^ 6 = match b[p]? with
    | some q => q.2
    | none => 0 := by
  have hd := okB_dW h
  rw [← pow64]
  unfold bW
  rw [dg_drop (by decide) p _ hd]
  cases hb : b[p]? with
  | none =>
    have : (b.map (fun q => q.2)).drop p = [] := List.drop_eq_nil_of_le (by simpa using List.getElem?_eq_none_iff.mp hb)
    rw [this]; rfl
  | some q =>
    have hp := (List.getElem?_eq_some_iff.mp hb).1
    have e : (b.map (fun q => q.2)).drop p = q.2 :: (b.map (fun q => q.2)).drop (p + 1) := by
      rw [List.drop_eq_getElem_cons (by simpa using hp)]
      congr 1
      rw [List.getElem_map, (List.getElem?_eq_some_iff.mp hb).2]
    rw [e]
    have := (h.2.2.2 q (List.mem_of_getElem? hb)).2
    exact dg_mod (B := 64) (by decide) _ (by omega)
theorem lN_toI (n : Nat) : (lN n).toInt32 = nI n := lN_i n
theorem nI_s1 (n : Nat) : nI (n + 1) - 1 = nI n := nI_pred n
def bat (b : Bd) (p : Nat) : Option Nat := b[p]?.map (·.1)
set_option maxRecDepth 100000 in
set_option maxHeartbeats 4000000 in
theorem cB_nameAt (d k : Nat) (hk : k < x_N) (h : x_H) {L w : Nat} {b : Bd} (hB : h k = x_bd L w b) (hok : okB L b) (p : Nat) (hp : p ≤ 8) : x_Ct d mX0_nameAt [.ref k, .int (nI p)] h (fun r h' => r = some (.int (oI (bat b p))) ∧ h' = h) := by
  have hN := okB_N36 hok
  refine x_enter pnX0_nameAt (Nat.le_of_ble_eq_true rfl) ?_
  refine x_aload_n (i := 0) dX0_nameAt_0 rfl rfl ?_
  refine x_get flX0_25 dX0_nameAt_1 (by first | decide | assumption) (by first | assumption | exact x_up_s | (refine (x_up_n (by first | decide | assumption)).trans ?_; first | assumption | exact x_up_s | (refine (x_up_n (by first | decide | assumption)).trans ?_; first | assumption | exact x_up_s | (refine (x_up_n (by first | decide | assumption)).trans ?_; first | assumption | exact x_up_s | (refine (x_up_n (by first | decide | assumption)).trans ?_; first | assumption | exact x_up_s | (refine (x_up_n (by first | decide | assumption)).trans ?_; first | assumption | exact x_up_s | (refine (x_up_n (by first | decide | assumption)).trans ?_; first | assumption | exact x_up_s | (refine (x_up_n (by first | decide | assumption)).trans ?_; first | assumption | exact x_up_s | (refine (x_up_n (by first | decide | assumption)).trans ?_; first | assumption | exact x_up_s | (refine (x_up_n (by first | decide | assumption)).trans ?_; first | assumption | exact x_up_s | (refine (x_up_n (by first | decide | assumption)).trans ?_; first | assumption | exact x_up_s | (refine (x_up_n (by first | decide | assumption)).trans ?_; first | assumption | exact x_up_s | (refine (x_up_n (by first | decide | assumption)).trans ?_; first | assumption | exact x_up_s | (refine (x_up_n (by first | decide | assumption)).trans ?_; first | assumption | exact x_up_s)))))))))))))) rfl ?_
  refine x_iconst (v := 4) dX0_nameAt_4 (by decide) ?_
  refine x_iload_n (i := 1) dX0_nameAt_5 rfl rfl ?_
  refine x_imul dX0_nameAt_6 ?_
  refine x_topi (nl_mul 4 p) ?_
  refine x_lushr dX0_nameAt_7 ?_
  refine x_ldc2 cnX0_39 dX0_nameAt_8 ?_
  refine x_land dX0_nameAt_11 ?_
  refine x_l2i dX0_nameAt_12 ?_
  refine x_iconst (v := 1) dX0_nameAt_13 (by decide) ?_
  refine x_isub dX0_nameAt_14 ?_
  refine x_topi (y := oI (bat b p)) ?_ ?_
  · rw [q_shr (by omega) (by omega)]
    have e : lN (bN b / 2 ^ (4 * p)) &&& 15 = lN (bN b / 2 ^ (4 * p) % 2 ^ 4) := q_mask (k := 4) (Nat.lt_of_le_of_lt (Nat.div_le_self _ _) (by omega)) (by decide)
    rw [e, lN_toI, bN_at hok, bat]
    cases b[p]? with
    | none => rfl
    | some q => exact nI_s1 q.1
  refine x_iret dX0_nameAt_15 rfl ⟨rfl, rfl⟩
set_option maxRecDepth 100000 in
set_option maxHeartbeats 4000000 in
theorem cB_write (d k : Nat) (hk : k < x_N) (h : x_H) {L w : Nat} {b : Bd} (hB : h k = x_bd L w b) (hok : okB L b) (hw : w ≤ 2) (nm : Nat) (hnm : nm ≤ 8) (ev : Int32) (tg : Nat) (htg : tg < 64) (hev : ev + 1 = nI tg) : x_Ct (d + 2) mX0_write [.ref k, .int (nI nm), .int ev] h (fun r h' => r = none ∧ h' = x_up h k (x_bd L w (bw w L (nm, tg) b))) := by
  have hL9 := hok.2.1
  -- the second half, from 23 on
  have half : ∀ (b1 : Bd) (h1 : x_H), okB L b1 → h1 k = x_bd L w b1 → (∀ c, x_up h1 k c = x_up h k c) → (if w = 2 then ((nm, tg) :: b1 : Bd).take L |>.eraseIdx ((L + 1) / 2 - 1) else ((nm, tg) :: b1 : Bd).take L) = bw w L (nm, tg) b →
      x_V (d + 2) mX0_write 23 (x_ls [some (.ref k), some (.int (nI nm)), some (.int ev)]) [] h1 (fun r h' => r = none ∧ h' = x_up h k (x_bd L w (bw w L (nm, tg) b))) := by
    intro b1 h1 hok1 hB1 hup hbw
    have hN := okB_N36 hok1
    have hW := okB_W54 hok1
    have hok2 : okB L (((nm, tg) :: b1 : Bd).take L) := by
      refine ⟨hok1.1, hok1.2.1, by rw [List.length_take]; exact Nat.min_le_left _ _, fun q hq => ?_⟩
      rcases List.mem_cons.mp (List.mem_of_mem_take hq) with rfl | hq
      · exact ⟨hnm, htg⟩
      · exact hok1.2.2.2 q hq
    refine x_aload_n (i := 0) dX0_write_23 rfl rfl ?_
    refine x_aload_n (i := 0) dX0_write_24 rfl rfl ?_
    refine x_get flX0_25 dX0_write_25 (by first | decide | assumption) (by first | assumption | exact x_up_s | (refine (x_up_n (by first | decide | assumption)).trans ?_; first | assumption | exact x_up_s | (refine (x_up_n (by first | decide | assumption)).trans ?_; first | assumption | exact x_up_s | (refine (x_up_n (by first | decide | assumption)).trans ?_; first | assumption | exact x_up_s | (refine (x_up_n (by first | decide | assumption)).trans ?_; first | assumption | exact x_up_s | (refine (x_up_n (by first | decide | assumption)).trans ?_; first | assumption | exact x_up_s | (refine (x_up_n (by first | decide | assumption)).trans ?_; first | assumption | exact x_up_s | (refine (x_up_n (by first | decide | assumption)).trans ?_; first | assumption | exact x_up_s | (refine (x_up_n (by first | decide | assumption)).trans ?_; first | assumption | exact x_up_s | (refine (x_up_n (by first | decide | assumption)).trans ?_; first | assumption | exact x_up_s | (refine (x_up_n (by first | decide | assumption)).trans ?_; first | assumption | exact x_up_s | (refine (x_up_n (by first | decide | assumption)).trans ?_; first | assumption | exact x_up_s | (refine (x_up_n (by first | decide | assumption)).trans ?_; first | assumption | exact x_up_s | (refine (x_up_n (by first | decide | assumption)).trans ?_; first | assumption | exact x_up_s)))))))))))))) rfl ?_
    refine x_iconst (v := 4) dX0_write_28 (by decide) ?_
    refine x_lshl dX0_write_29 ?_
    refine x_iload_n (i := 1) dX0_write_30 rfl rfl ?_
    refine x_iconst (v := 1) dX0_write_31 (by decide) ?_
    refine x_iadd dX0_write_32 ?_
    refine x_i2l dX0_write_33 ?_
    refine x_lor dX0_write_34 ?_
    refine x_aload_n (i := 0) dX0_write_35 rfl rfl ?_
    refine x_get flX0_18 dX0_write_36 (by first | decide | assumption) (by first | assumption | exact x_up_s | (refine (x_up_n (by first | decide | assumption)).trans ?_; first | assumption | exact x_up_s | (refine (x_up_n (by first | decide | assumption)).trans ?_; first | assumption | exact x_up_s | (refine (x_up_n (by first | decide | assumption)).trans ?_; first | assumption | exact x_up_s | (refine (x_up_n (by first | decide | assumption)).trans ?_; first | assumption | exact x_up_s | (refine (x_up_n (by first | decide | assumption)).trans ?_; first | assumption | exact x_up_s | (refine (x_up_n (by first | decide | assumption)).trans ?_; first | assumption | exact x_up_s | (refine (x_up_n (by first | decide | assumption)).trans ?_; first | assumption | exact x_up_s | (refine (x_up_n (by first | decide | assumption)).trans ?_; first | assumption | exact x_up_s | (refine (x_up_n (by first | decide | assumption)).trans ?_; first | assumption | exact x_up_s | (refine (x_up_n (by first | decide | assumption)).trans ?_; first | assumption | exact x_up_s | (refine (x_up_n (by first | decide | assumption)).trans ?_; first | assumption | exact x_up_s | (refine (x_up_n (by first | decide | assumption)).trans ?_; first | assumption | exact x_up_s | (refine (x_up_n (by first | decide | assumption)).trans ?_; first | assumption | exact x_up_s)))))))))))))) rfl ?_
    refine x_land dX0_write_39 ?_
    refine x_topl (y := lN (bN (((nm, tg) :: b1 : Bd).take L))) ?_ ?_
    · have e1 : lN (bN b1) <<< ((4 : Int32).toInt64 &&& 63) = lN (bN b1 * 2 ^ 4) := q_shl (k := 4) (by omega) (by decide)
      rw [e1, nI_1, nI_toL (by omega), q_or_dj (k := 4) (by omega) (by omega) (by decide), q_mask (by omega) (by omega), ← bN_push hok1 hnm]
    refine x_put fpX0_25 dX0_write_40 (by first | decide | assumption) (by first | assumption | exact x_up_s | (refine (x_up_n (by first | decide | assumption)).trans ?_; first | assumption | exact x_up_s | (refine (x_up_n (by first | decide | assumption)).trans ?_; first | assumption | exact x_up_s | (refine (x_up_n (by first | decide | assumption)).trans ?_; first | assumption | exact x_up_s | (refine (x_up_n (by first | decide | assumption)).trans ?_; first | assumption | exact x_up_s | (refine (x_up_n (by first | decide | assumption)).trans ?_; first | assumption | exact x_up_s | (refine (x_up_n (by first | decide | assumption)).trans ?_; first | assumption | exact x_up_s | (refine (x_up_n (by first | decide | assumption)).trans ?_; first | assumption | exact x_up_s | (refine (x_up_n (by first | decide | assumption)).trans ?_; first | assumption | exact x_up_s | (refine (x_up_n (by first | decide | assumption)).trans ?_; first | assumption | exact x_up_s | (refine (x_up_n (by first | decide | assumption)).trans ?_; first | assumption | exact x_up_s | (refine (x_up_n (by first | decide | assumption)).trans ?_; first | assumption | exact x_up_s | (refine (x_up_n (by first | decide | assumption)).trans ?_; first | assumption | exact x_up_s | (refine (x_up_n (by first | decide | assumption)).trans ?_; first | assumption | exact x_up_s)))))))))))))) rfl rfl (fun _ => rfl) (Nat.le_of_ble_eq_true rfl) rfl ?_
    refine x_aload_n (i := 0) dX0_write_43 rfl rfl ?_
    refine x_aload_n (i := 0) dX0_write_44 rfl rfl ?_
    refine x_get flX0_28 dX0_write_45 (by first | decide | assumption) (by first | assumption | exact x_up_s | (refine (x_up_n (by first | decide | assumption)).trans ?_; first | assumption | exact x_up_s | (refine (x_up_n (by first | decide | assumption)).trans ?_; first | assumption | exact x_up_s | (refine (x_up_n (by first | decide | assumption)).trans ?_; first | assumption | exact x_up_s | (refine (x_up_n (by first | decide | assumption)).trans ?_; first | assumption | exact x_up_s | (refine (x_up_n (by first | decide | assumption)).trans ?_; first | assumption | exact x_up_s | (refine (x_up_n (by first | decide | assumption)).trans ?_; first | assumption | exact x_up_s | (refine (x_up_n (by first | decide | assumption)).trans ?_; first | assumption | exact x_up_s | (refine (x_up_n (by first | decide | assumption)).trans ?_; first | assumption | exact x_up_s | (refine (x_up_n (by first | decide | assumption)).trans ?_; first | assumption | exact x_up_s | (refine (x_up_n (by first | decide | assumption)).trans ?_; first | assumption | exact x_up_s | (refine (x_up_n (by first | decide | assumption)).trans ?_; first | assumption | exact x_up_s | (refine (x_up_n (by first | decide | assumption)).trans ?_; first | assumption | exact x_up_s | (refine (x_up_n (by first | decide | assumption)).trans ?_; first | assumption | exact x_up_s)))))))))))))) rfl ?_
    refine x_bipush (v := 6) dX0_write_48 (by decide) ?_
    refine x_lshl dX0_write_50 ?_
    refine x_iload_n (i := 2) dX0_write_51 rfl rfl ?_
    refine x_iconst (v := 1) dX0_write_52 (by decide) ?_
    refine x_iadd dX0_write_53 ?_
    refine x_i2l dX0_write_54 ?_
    refine x_lor dX0_write_55 ?_
    refine x_aload_n (i := 0) dX0_write_56 rfl rfl ?_
    refine x_get flX0_22 dX0_write_57 (by first | decide | assumption) (by first | assumption | exact x_up_s | (refine (x_up_n (by first | decide | assumption)).trans ?_; first | assumption | exact x_up_s | (refine (x_up_n (by first | decide | assumption)).trans ?_; first | assumption | exact x_up_s | (refine (x_up_n (by first | decide | assumption)).trans ?_; first | assumption | exact x_up_s | (refine (x_up_n (by first | decide | assumption)).trans ?_; first | assumption | exact x_up_s | (refine (x_up_n (by first | decide | assumption)).trans ?_; first | assumption | exact x_up_s | (refine (x_up_n (by first | decide | assumption)).trans ?_; first | assumption | exact x_up_s | (refine (x_up_n (by first | decide | assumption)).trans ?_; first | assumption | exact x_up_s | (refine (x_up_n (by first | decide | assumption)).trans ?_; first | assumption | exact x_up_s | (refine (x_up_n (by first | decide | assumption)).trans ?_; first | assumption | exact x_up_s | (refine (x_up_n (by first | decide | assumption)).trans ?_; first | assumption | exact x_up_s | (refine (x_up_n (by first | decide | assumption)).trans ?_; first | assumption | exact x_up_s | (refine (x_up_n (by first | decide | assumption)).trans ?_; first | assumption | exact x_up_s | (refine (x_up_n (by first | decide | assumption)).trans ?_; first | assumption | exact x_up_s)))))))))))))) rfl ?_
    refine x_land dX0_write_60 ?_
    refine x_topl (y := lN (bW (((nm, tg) :: b1 : Bd).take L))) ?_ ?_
    · have e1 : lN (bW b1) <<< ((6 : Int32).toInt64 &&& 63) = lN (bW b1 * 2 ^ 6) := q_shl (k := 6) (by omega) (by decide)
      rw [e1, hev, nI_toL (by omega), q_or_dj (k := 6) (by omega) (by omega) (by decide), q_mask (by omega) (by omega), ← bW_push hok1 htg]
    refine x_put fpX0_28 dX0_write_61 (by first | decide | assumption) (by first | assumption | exact x_up_s | (refine (x_up_n (by first | decide | assumption)).trans ?_; first | assumption | exact x_up_s | (refine (x_up_n (by first | decide | assumption)).trans ?_; first | assumption | exact x_up_s | (refine (x_up_n (by first | decide | assumption)).trans ?_; first | assumption | exact x_up_s | (refine (x_up_n (by first | decide | assumption)).trans ?_; first | assumption | exact x_up_s | (refine (x_up_n (by first | decide | assumption)).trans ?_; first | assumption | exact x_up_s | (refine (x_up_n (by first | decide | assumption)).trans ?_; first | assumption | exact x_up_s | (refine (x_up_n (by first | decide | assumption)).trans ?_; first | assumption | exact x_up_s | (refine (x_up_n (by first | decide | assumption)).trans ?_; first | assumption | exact x_up_s | (refine (x_up_n (by first | decide | assumption)).trans ?_; first | assumption | exact x_up_s | (refine (x_up_n (by first | decide | assumption)).trans ?_; first | assumption | exact x_up_s | (refine (x_up_n (by first | decide | assumption)).trans ?_; first | assumption | exact x_up_s | (refine (x_up_n (by first | decide | assumption)).trans ?_; first | assumption | exact x_up_s | (refine (x_up_n (by first | decide | assumption)).trans ?_; first | assumption | exact x_up_s)))))))))))))) rfl rfl (fun _ => rfl) (Nat.le_of_ble_eq_true rfl) rfl ?_
    refine x_hp (h' := x_up h1 k (x_bd L w (((nm, tg) :: b1 : Bd).take L))) (by rw [x_up_up]; rfl) ?_
    refine x_aload_n (i := 0) dX0_write_64 rfl rfl ?_
    refine x_get flX0_15 dX0_write_65 (by first | decide | assumption) (by first | assumption | exact x_up_s | (refine (x_up_n (by first | decide | assumption)).trans ?_; first | assumption | exact x_up_s | (refine (x_up_n (by first | decide | assumption)).trans ?_; first | assumption | exact x_up_s | (refine (x_up_n (by first | decide | assumption)).trans ?_; first | assumption | exact x_up_s | (refine (x_up_n (by first | decide | assumption)).trans ?_; first | assumption | exact x_up_s | (refine (x_up_n (by first | decide | assumption)).trans ?_; first | assumption | exact x_up_s | (refine (x_up_n (by first | decide | assumption)).trans ?_; first | assumption | exact x_up_s | (refine (x_up_n (by first | decide | assumption)).trans ?_; first | assumption | exact x_up_s | (refine (x_up_n (by first | decide | assumption)).trans ?_; first | assumption | exact x_up_s | (refine (x_up_n (by first | decide | assumption)).trans ?_; first | assumption | exact x_up_s | (refine (x_up_n (by first | decide | assumption)).trans ?_; first | assumption | exact x_up_s | (refine (x_up_n (by first | decide | assumption)).trans ?_; first | assumption | exact x_up_s | (refine (x_up_n (by first | decide | assumption)).trans ?_; first | assumption | exact x_up_s | (refine (x_up_n (by first | decide | assumption)).trans ?_; first | assumption | exact x_up_s)))))))))))))) rfl ?_
    refine x_iconst (v := 2) dX0_write_68 (by decide) ?_
    refine x_icmp_ne 86 dX0_write_69 (by decide) (fun hc => ?_) (fun hc => ?_)
    · rw [if_neg (fun q => hc (by rw [q]; rfl))] at hbw
      refine x_vret dX0_write_86 rfl ⟨rfl, by rw [hup, hbw]⟩
    · have hw2 : w = 2 := nI_inj (b := 2) (by omega) (by decide) hc
      rw [if_pos hw2] at hbw
      refine x_aload_n (i := 0) dX0_write_72 rfl rfl ?_
      refine x_aload_n (i := 0) dX0_write_73 rfl rfl ?_
      refine x_get flX0_11 dX0_write_74 (by first | decide | assumption) (by first | assumption | exact x_up_s | (refine (x_up_n (by first | decide | assumption)).trans ?_; first | assumption | exact x_up_s | (refine (x_up_n (by first | decide | assumption)).trans ?_; first | assumption | exact x_up_s | (refine (x_up_n (by first | decide | assumption)).trans ?_; first | assumption | exact x_up_s | (refine (x_up_n (by first | decide | assumption)).trans ?_; first | assumption | exact x_up_s | (refine (x_up_n (by first | decide | assumption)).trans ?_; first | assumption | exact x_up_s | (refine (x_up_n (by first | decide | assumption)).trans ?_; first | assumption | exact x_up_s | (refine (x_up_n (by first | decide | assumption)).trans ?_; first | assumption | exact x_up_s | (refine (x_up_n (by first | decide | assumption)).trans ?_; first | assumption | exact x_up_s | (refine (x_up_n (by first | decide | assumption)).trans ?_; first | assumption | exact x_up_s | (refine (x_up_n (by first | decide | assumption)).trans ?_; first | assumption | exact x_up_s | (refine (x_up_n (by first | decide | assumption)).trans ?_; first | assumption | exact x_up_s | (refine (x_up_n (by first | decide | assumption)).trans ?_; first | assumption | exact x_up_s | (refine (x_up_n (by first | decide | assumption)).trans ?_; first | assumption | exact x_up_s)))))))))))))) rfl ?_
      refine x_iconst (v := 1) dX0_write_77 (by decide) ?_
      refine x_iadd dX0_write_78 ?_
      refine x_iconst (v := 2) dX0_write_79 (by decide) ?_
      refine x_idiv dX0_write_80 (by decide) ?_
      refine x_iconst (v := 1) dX0_write_81 (by decide) ?_
      refine x_isub dX0_write_82 ?_
      refine x_topi (y := nI ((L + 1) / 2 - 1)) ?_ ?_
      · have e1 : (nI L + 1) / 2 = nI ((L + 1) / 2) := by rw [nI_1]; exact pk_div (d := 2) (by omega) (by decide) (by decide)
        rw [e1]
        exact pk_sub (b := 1) (by have := hok1.1; omega)
      refine x_invV clX0_35 dX0_write_83 (cB_removeAt d k hk _ x_up_s hok2 ((L + 1) / 2 - 1) (by omega)) (by omega) rfl (by first | decide | assumption) (by first | assumption | exact x_up_s | (refine (x_up_n (by first | decide | assumption)).trans ?_; first | assumption | exact x_up_s | (refine (x_up_n (by first | decide | assumption)).trans ?_; first | assumption | exact x_up_s | (refine (x_up_n (by first | decide | assumption)).trans ?_; first | assumption | exact x_up_s | (refine (x_up_n (by first | decide | assumption)).trans ?_; first | assumption | exact x_up_s | (refine (x_up_n (by first | decide | assumption)).trans ?_; first | assumption | exact x_up_s | (refine (x_up_n (by first | decide | assumption)).trans ?_; first | assumption | exact x_up_s | (refine (x_up_n (by first | decide | assumption)).trans ?_; first | assumption | exact x_up_s | (refine (x_up_n (by first | decide | assumption)).trans ?_; first | assumption | exact x_up_s | (refine (x_up_n (by first | decide | assumption)).trans ?_; first | assumption | exact x_up_s | (refine (x_up_n (by first | decide | assumption)).trans ?_; first | assumption | exact x_up_s | (refine (x_up_n (by first | decide | assumption)).trans ?_; first | assumption | exact x_up_s | (refine (x_up_n (by first | decide | assumption)).trans ?_; first | assumption | exact x_up_s | (refine (x_up_n (by first | decide | assumption)).trans ?_; first | assumption | exact x_up_s)))))))))))))) rfl (Nat.le_of_ble_eq_true rfl) ?_
      rintro r h' ⟨rfl, rfl⟩
      refine x_vret dX0_write_86 rfl ⟨rfl, by rw [x_up_up, hup, hbw]⟩
  refine x_enter pnX0_write (Nat.le_of_ble_eq_true rfl) ?_
  refine x_aload_n (i := 0) dX0_write_0 rfl rfl ?_
  refine x_get flX0_15 dX0_write_1 (by first | decide | assumption) (by first | assumption | exact x_up_s | (refine (x_up_n (by first | decide | assumption)).trans ?_; first | assumption | exact x_up_s | (refine (x_up_n (by first | decide | assumption)).trans ?_; first | assumption | exact x_up_s | (refine (x_up_n (by first | decide | assumption)).trans ?_; first | assumption | exact x_up_s | (refine (x_up_n (by first | decide | assumption)).trans ?_; first | assumption | exact x_up_s | (refine (x_up_n (by first | decide | assumption)).trans ?_; first | assumption | exact x_up_s | (refine (x_up_n (by first | decide | assumption)).trans ?_; first | assumption | exact x_up_s | (refine (x_up_n (by first | decide | assumption)).trans ?_; first | assumption | exact x_up_s | (refine (x_up_n (by first | decide | assumption)).trans ?_; first | assumption | exact x_up_s | (refine (x_up_n (by first | decide | assumption)).trans ?_; first | assumption | exact x_up_s | (refine (x_up_n (by first | decide | assumption)).trans ?_; first | assumption | exact x_up_s | (refine (x_up_n (by first | decide | assumption)).trans ?_; first | assumption | exact x_up_s | (refine (x_up_n (by first | decide | assumption)).trans ?_; first | assumption | exact x_up_s | (refine (x_up_n (by first | decide | assumption)).trans ?_; first | assumption | exact x_up_s)))))))))))))) rfl ?_
  refine x_iconst (v := 1) dX0_write_4 (by decide) ?_
  refine x_icmp_ne 23 dX0_write_5 (by decide) (fun hc => ?_) (fun hc => ?_)
  · refine x_wk (half b h hok hB (fun _ => rfl) ?_) ⟨rfl, rfl, rfl, trivial⟩
    have : ¬ (w = 1 ∧ nm ≠ 8) := fun q => hc (by rw [q.1]; rfl)
    simp only [bw, if_neg this]
  · have hw1 : w = 1 := nI_inj (b := 1) (by omega) (by decide) hc
    refine x_iload_n (i := 1) dX0_write_8 rfl rfl ?_
    refine x_bipush (v := 8) dX0_write_9 (by decide) ?_
    refine x_icmp_eq 23 dX0_write_11 (by decide) (fun hd => ?_) (fun hd => ?_)
    · refine x_wk (half b h hok hB (fun _ => rfl) ?_) ⟨rfl, rfl, rfl, trivial⟩
      have h8 : nm = 8 := nI_inj (b := 8) (by omega) (by decide) hd
      have : ¬ (w = 1 ∧ nm ≠ 8) := fun q => q.2 h8
      simp only [bw, if_neg this]
    · have hn8 : nm ≠ 8 := fun q => hd (by rw [q]; rfl)
      have hcnd : w = 1 ∧ nm ≠ 8 := ⟨hw1, hn8⟩
      refine x_aload_n (i := 0) dX0_write_14 rfl rfl ?_
      refine x_aload_n (i := 0) dX0_write_15 rfl rfl ?_
      refine x_iload_n (i := 1) dX0_write_16 rfl rfl ?_
      refine x_invV clX0_31 dX0_write_17 (cB_placeOf d k hk h hB hok nm hnm) (by omega) rfl (by first | decide | assumption) (by first | assumption | exact x_up_s | (refine (x_up_n (by first | decide | assumption)).trans ?_; first | assumption | exact x_up_s | (refine (x_up_n (by first | decide | assumption)).trans ?_; first | assumption | exact x_up_s | (refine (x_up_n (by first | decide | assumption)).trans ?_; first | assumption | exact x_up_s | (refine (x_up_n (by first | decide | assumption)).trans ?_; first | assumption | exact x_up_s | (refine (x_up_n (by first | decide | assumption)).trans ?_; first | assumption | exact x_up_s | (refine (x_up_n (by first | decide | assumption)).trans ?_; first | assumption | exact x_up_s | (refine (x_up_n (by first | decide | assumption)).trans ?_; first | assumption | exact x_up_s | (refine (x_up_n (by first | decide | assumption)).trans ?_; first | assumption | exact x_up_s | (refine (x_up_n (by first | decide | assumption)).trans ?_; first | assumption | exact x_up_s | (refine (x_up_n (by first | decide | assumption)).trans ?_; first | assumption | exact x_up_s | (refine (x_up_n (by first | decide | assumption)).trans ?_; first | assumption | exact x_up_s | (refine (x_up_n (by first | decide | assumption)).trans ?_; first | assumption | exact x_up_s | (refine (x_up_n (by first | decide | assumption)).trans ?_; first | assumption | exact x_up_s)))))))))))))) rfl (Nat.le_of_ble_eq_true rfl) ?_
      rintro r h' ⟨rfl, rfl⟩
      cases hf : bfind nm b with
      | none =>
        have hdr : bdrop nm b = b := by unfold bdrop; rw [hf]
        refine x_invV clX0_35 dX0_write_20 (cB_removeAt_m1 d k h') (by omega) rfl (by first | decide | assumption) (by first | assumption | exact x_up_s | (refine (x_up_n (by first | decide | assumption)).trans ?_; first | assumption | exact x_up_s | (refine (x_up_n (by first | decide | assumption)).trans ?_; first | assumption | exact x_up_s | (refine (x_up_n (by first | decide | assumption)).trans ?_; first | assumption | exact x_up_s | (refine (x_up_n (by first | decide | assumption)).trans ?_; first | assumption | exact x_up_s | (refine (x_up_n (by first | decide | assumption)).trans ?_; first | assumption | exact x_up_s | (refine (x_up_n (by first | decide | assumption)).trans ?_; first | assumption | exact x_up_s | (refine (x_up_n (by first | decide | assumption)).trans ?_; first | assumption | exact x_up_s | (refine (x_up_n (by first | decide | assumption)).trans ?_; first | assumption | exact x_up_s | (refine (x_up_n (by first | decide | assumption)).trans ?_; first | assumption | exact x_up_s | (refine (x_up_n (by first | decide | assumption)).trans ?_; first | assumption | exact x_up_s | (refine (x_up_n (by first | decide | assumption)).trans ?_; first | assumption | exact x_up_s | (refine (x_up_n (by first | decide | assumption)).trans ?_; first | assumption | exact x_up_s | (refine (x_up_n (by first | decide | assumption)).trans ?_; first | assumption | exact x_up_s)))))))))))))) rfl (Nat.le_of_ble_eq_true rfl) ?_
        rintro r h'' ⟨rfl, rfl⟩
        refine x_wk (half b h'' hok hB (fun _ => rfl) ?_) ⟨rfl, rfl, rfl, trivial⟩
        simp only [bw, if_pos hcnd, hdr]
      | some i =>
        have hdr : bdrop nm b = b.eraseIdx i := by unfold bdrop; rw [hf]
        have hi : i < b.length := by
          have := List.findIdx?_eq_some_iff_findIdx_eq.mp hf
          exact this.1
        refine x_invV clX0_35 dX0_write_20 (cB_removeAt d k hk h' hB hok i (by have := hok.2.2.1; omega)) (by omega) rfl (by first | decide | assumption) (by first | assumption | exact x_up_s | (refine (x_up_n (by first | decide | assumption)).trans ?_; first | assumption | exact x_up_s | (refine (x_up_n (by first | decide | assumption)).trans ?_; first | assumption | exact x_up_s | (refine (x_up_n (by first | decide | assumption)).trans ?_; first | assumption | exact x_up_s | (refine (x_up_n (by first | decide | assumption)).trans ?_; first | assumption | exact x_up_s | (refine (x_up_n (by first | decide | assumption)).trans ?_; first | assumption | exact x_up_s | (refine (x_up_n (by first | decide | assumption)).trans ?_; first | assumption | exact x_up_s | (refine (x_up_n (by first | decide | assumption)).trans ?_; first | assumption | exact x_up_s | (refine (x_up_n (by first | decide | assumption)).trans ?_; first | assumption | exact x_up_s | (refine (x_up_n (by first | decide | assumption)).trans ?_; first | assumption | exact x_up_s | (refine (x_up_n (by first | decide | assumption)).trans ?_; first | assumption | exact x_up_s | (refine (x_up_n (by first | decide | assumption)).trans ?_; first | assumption | exact x_up_s | (refine (x_up_n (by first | decide | assumption)).trans ?_; first | assumption | exact x_up_s | (refine (x_up_n (by first | decide | assumption)).trans ?_; first | assumption | exact x_up_s)))))))))))))) rfl (Nat.le_of_ble_eq_true rfl) ?_
        rintro r h'' ⟨rfl, rfl⟩
        refine x_wk (half (b.eraseIdx i) _ (okB_erase hok i) x_up_s (fun _ => x_up_up) ?_) ⟨rfl, rfl, rfl, trivial⟩
        simp only [bw, if_pos hcnd, hdr]
