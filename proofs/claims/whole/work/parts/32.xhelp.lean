/-! the i-th of the missed; draws; boys; looks -/
def nthA (m : Nat) (t : Int32) : Nat → Nat → Nat → Option Nat
  | 0, _, _ => none
  | f + 1, e, k => if m.testBit e then (if nI k = t then some e else nthA m t f (e + 1) (k + 1)) else nthA m t f (e + 1) k
theorem l_bit {m p : Nat} (hm : m < 2 ^ 63) (hp : p < 63) : ((lN m).toUInt64 >>> ((nI p).toInt64.toUInt64 &&& Int64.toUInt64 63)).toInt64 &&& 1 = lN (m.testBit p).toNat := by
  rw [q_shr (by omega) (by omega)]
  have e : lN (m / 2 ^ p) &&& 1 = lN (m / 2 ^ p % 2) := by
    have := l_and (m / 2 ^ p) 1
    rw [Nat.and_one_is_mod] at this
    exact this
  rw [e, Nat.testBit_eq_decide_div_mod_eq]
  rcases Nat.mod_two_eq_zero_or_one (m / 2 ^ p) with q | q <;> simp [q]
set_option maxRecDepth 100000 in
set_option maxHeartbeats 4000000 in
theorem cX_nthEvent_loop (d : Nat) (h : x_H) {n : Nat} {cs : Nat → Nat} (hX : h 0 = x_x) (hD : h 1 = x_dy n) (hG : h 2 = x_sg cs) (hok : okD n cs) (m : Nat) (hm : m < 2 ^ 63) (t : Int32) (Q : Option Value → x_H → Prop) :
    ∀ (f e k : Nat), e + f = n → Q (some (.int (fI (nthA m t f e k)))) h → x_V d mX4_nthEvent 6 (x_ls [some (.ref 0), some (.long (lN m)), none, some (.int t), some (.int (nI k)), some (.int (nI e))]) [] h Q := by
  have hn := hok.1
  intro f
  induction f with
  | zero =>
    intro e k he hq
    refine x_iload dX4_nthEvent_6 rfl ?_
    refine x_aload_n (i := 0) dX4_nthEvent_8 rfl rfl ?_
    refine x_get flX4_12 dX4_nthEvent_9 (by first | assumption | decide) (by first | assumption | exact x_up_s | (refine (x_up_n (by first | assumption | decide)).trans ?_; first | assumption | exact x_up_s | (refine (x_up_n (by first | assumption | decide)).trans ?_; first | assumption | exact x_up_s | (refine (x_up_n (by first | assumption | decide)).trans ?_; first | assumption | exact x_up_s | (refine (x_up_n (by first | assumption | decide)).trans ?_; first | assumption | exact x_up_s | (refine (x_up_n (by first | assumption | decide)).trans ?_; first | assumption | exact x_up_s | (refine (x_up_n (by first | assumption | decide)).trans ?_; first | assumption | exact x_up_s | (refine (x_up_n (by first | assumption | decide)).trans ?_; first | assumption | exact x_up_s)))))))) rfl ?_
    refine x_get flX4_68 dX4_nthEvent_12 (by first | assumption | decide) (by first | assumption | exact x_up_s | (refine (x_up_n (by first | assumption | decide)).trans ?_; first | assumption | exact x_up_s | (refine (x_up_n (by first | assumption | decide)).trans ?_; first | assumption | exact x_up_s | (refine (x_up_n (by first | assumption | decide)).trans ?_; first | assumption | exact x_up_s | (refine (x_up_n (by first | assumption | decide)).trans ?_; first | assumption | exact x_up_s | (refine (x_up_n (by first | assumption | decide)).trans ?_; first | assumption | exact x_up_s | (refine (x_up_n (by first | assumption | decide)).trans ?_; first | assumption | exact x_up_s | (refine (x_up_n (by first | assumption | decide)).trans ?_; first | assumption | exact x_up_s)))))))) rfl ?_
    refine x_icmp_ge 47 dX4_nthEvent_15 (by decide) (fun _ => ?_) (fun hc => absurd (nI_le (by omega) (by omega)) hc)
    refine x_bipush (v := (-6)) dX4_nthEvent_47 (by decide) ?_
    refine x_iret dX4_nthEvent_49 rfl hq
  | succ f ih =>
    intro e k he hq
    unfold nthA at hq
    refine x_iload dX4_nthEvent_6 rfl ?_
    refine x_aload_n (i := 0) dX4_nthEvent_8 rfl rfl ?_
    refine x_get flX4_12 dX4_nthEvent_9 (by first | assumption | decide) (by first | assumption | exact x_up_s | (refine (x_up_n (by first | assumption | decide)).trans ?_; first | assumption | exact x_up_s | (refine (x_up_n (by first | assumption | decide)).trans ?_; first | assumption | exact x_up_s | (refine (x_up_n (by first | assumption | decide)).trans ?_; first | assumption | exact x_up_s | (refine (x_up_n (by first | assumption | decide)).trans ?_; first | assumption | exact x_up_s | (refine (x_up_n (by first | assumption | decide)).trans ?_; first | assumption | exact x_up_s | (refine (x_up_n (by first | assumption | decide)).trans ?_; first | assumption | exact x_up_s | (refine (x_up_n (by first | assumption | decide)).trans ?_; first | assumption | exact x_up_s)))))))) rfl ?_
    refine x_get flX4_68 dX4_nthEvent_12 (by first | assumption | decide) (by first | assumption | exact x_up_s | (refine (x_up_n (by first | assumption | decide)).trans ?_; first | assumption | exact x_up_s | (refine (x_up_n (by first | assumption | decide)).trans ?_; first | assumption | exact x_up_s | (refine (x_up_n (by first | assumption | decide)).trans ?_; first | assumption | exact x_up_s | (refine (x_up_n (by first | assumption | decide)).trans ?_; first | assumption | exact x_up_s | (refine (x_up_n (by first | assumption | decide)).trans ?_; first | assumption | exact x_up_s | (refine (x_up_n (by first | assumption | decide)).trans ?_; first | assumption | exact x_up_s | (refine (x_up_n (by first | assumption | decide)).trans ?_; first | assumption | exact x_up_s)))))))) rfl ?_
    refine x_icmp_ge 47 dX4_nthEvent_15 (by decide) (fun hc => absurd hc (nI_ge (by omega) (by omega))) (fun _ => ?_)
    refine x_lload_n (i := 1) dX4_nthEvent_18 rfl rfl ?_
    refine x_iload dX4_nthEvent_19 rfl ?_
    refine x_lushr dX4_nthEvent_21 ?_
    refine x_lconst (v := 1) dX4_nthEvent_22 (by decide) ?_
    refine x_land dX4_nthEvent_23 ?_
    refine x_topl (l_bit hm (by omega)) ?_
    cases hb : m.testBit e with
    | false =>
      rw [hb] at hq
      simp only [Bool.false_eq_true, if_false] at hq
      refine x_lconst (v := 1) dX4_nthEvent_24 (by decide) ?_
      refine x_lcmp dX4_nthEvent_25 ?_
      refine x_if_ne 41 dX4_nthEvent_26 (by decide) (fun _ => ?_) (fun hc => absurd hc (by decide))
      first | refine x_incN dX4_nthEvent_41 rfl (by decide) ?_ | refine x_iinc dX4_nthEvent_41 rfl rfl (by decide) ?_
      refine x_goto 6 dX4_nthEvent_44 (by decide) ?_
      exact x_wk (ih (e + 1) k (by omega) hq) ⟨rfl, rfl, rfl, rfl, rfl, trivial⟩
    | true =>
      rw [hb] at hq
      simp only [if_true] at hq
      refine x_lconst (v := 1) dX4_nthEvent_24 (by decide) ?_
      refine x_lcmp dX4_nthEvent_25 ?_
      refine x_if_ne 41 dX4_nthEvent_26 (by decide) (fun hc => absurd (by decide) hc) (fun _ => ?_)
      refine x_iload dX4_nthEvent_29 rfl ?_
      refine x_iload_n (i := 3) dX4_nthEvent_31 rfl rfl ?_
      refine x_icmp_ne 38 dX4_nthEvent_32 (by decide) (fun hc => ?_) (fun hc => ?_)
      · rw [if_neg hc] at hq
        first | refine x_incN dX4_nthEvent_38 rfl (by decide) ?_ | refine x_iinc dX4_nthEvent_38 rfl rfl (by decide) ?_
        first | refine x_incN dX4_nthEvent_41 rfl (by decide) ?_ | refine x_iinc dX4_nthEvent_41 rfl rfl (by decide) ?_
        refine x_goto 6 dX4_nthEvent_44 (by decide) ?_
        exact x_wk (ih (e + 1) (k + 1) (by omega) hq) ⟨rfl, rfl, rfl, rfl, rfl, trivial⟩
      · rw [if_pos hc] at hq
        refine x_iload dX4_nthEvent_35 rfl ?_
        refine x_iret dX4_nthEvent_37 rfl hq
set_option maxRecDepth 100000 in
set_option maxHeartbeats 4000000 in
theorem cX_nthEvent (d : Nat) (h : x_H) {n : Nat} {cs : Nat → Nat} (hX : h 0 = x_x) (hD : h 1 = x_dy n) (hG : h 2 = x_sg cs) (hok : okD n cs) (m : Nat) (hm : m < 2 ^ 63) (t : Int32) : x_Ct d mX4_nthEvent [.ref 0, .long (lN m), .int t] h (fun r h' => r = some (.int (fI (nthA m t n 0 0))) ∧ h' = h) := by
  refine x_enter pnX4_nthEvent (Nat.le_of_ble_eq_true rfl) ?_
  refine x_iconst (v := 0) dX4_nthEvent_0 (by decide) ?_
  refine x_istore dX4_nthEvent_1 (by decide) ?_
  refine x_iconst (v := 0) dX4_nthEvent_3 (by decide) ?_
  refine x_istore dX4_nthEvent_4 (by decide) ?_
  exact x_wk (cX_nthEvent_loop d h hX hD hG hok m hm t _ n 0 0 (by omega) ⟨rfl, rfl⟩) ⟨rfl, rfl, rfl, rfl, rfl, trivial⟩
/-- draws: x, how often the name stood there, the board -/
def drA (w L : Nat) (p : Option Nat) : Nat → Nat → Bd → Nat → Nat × Bd
  | 0, _, b, a => (a, b)
  | f + 1, x, b, a =>
    let x' := (75 * x + 74) % 65537
    let b' := bw w L (x' % 8, 0) b
    drA w L p f x' b' (match p with
      | some q => if bhas q b' then a + 1 else a
      | none => a)
theorem okB_drA {w L : Nat} {p : Option Nat} : ∀ (f x : Nat) (b : Bd) (a : Nat), okB L b → okB L (drA w L p f x b a).2
  | 0, _, _, _, h => h
  | f + 1, x, b, a, h => by
    unfold drA
    exact okB_drA f _ _ _ (okB_bw h (by show _ % 8 ≤ 8; omega) (by show 0 < 64; decide))
theorem n_rem {a b : Nat} (ha : a < 2 ^ 31) (hb0 : 0 < b) (hb : b < 2 ^ 31) : nI a - nI a / nI b * nI b = nI (a % b) := pk_rem ha hb0 hb
set_option maxRecDepth 100000 in
set_option maxHeartbeats 4000000 in
theorem cX_draw_loop (d : Nat) (h : x_H) (hX : h 0 = x_x) {L w : Nat} (hw : w ≤ 2) (p : Option Nat) (hp : ∀ q, p = some q → q < 8) (s0 : Int32) (m : Nat) (hm : m < 2 ^ 31) (Q : Option Value → x_H → Prop) :
    ∀ (f k x : Nat) (b : Bd) (a : Nat), k + f = m → x < 65537 → okB L b → Q (some (.int (nI (drA w L p f x b a).1))) (x_up h 9 (x_bd L w (drA w L p f x b a).2)) →
      x_V (d + 3) mX4_drawCrossings 9 (x_ls [some (.ref 0), some (.int s0), some (.int (nI m)), some (.int (oI p)), some (.int (nI a)), some (.int (nI x)), some (.int (nI k))]) [] (x_up h 9 (x_bd L w b)) Q := by
  intro f
  induction f with
  | zero =>
    intro k x b a hk hx hb hq
    refine x_iload dX4_drawCrossings_9 rfl ?_
    refine x_iload_n (i := 2) dX4_drawCrossings_11 rfl rfl ?_
    refine x_icmp_ge 61 dX4_drawCrossings_12 (by decide) (fun _ => ?_) (fun hc => absurd (nI_le (by omega) (by omega)) hc)
    refine x_iload dX4_drawCrossings_61 rfl ?_
    refine x_iret dX4_drawCrossings_63 rfl hq
  | succ f ih =>
    intro k x b a hk hx hb hq
    unfold drA at hq
    dsimp only at hq
    refine x_iload dX4_drawCrossings_9 rfl ?_
    refine x_iload_n (i := 2) dX4_drawCrossings_11 rfl rfl ?_
    refine x_icmp_ge 61 dX4_drawCrossings_12 (by decide) (fun hc => absurd hc (nI_ge (by omega) (by omega))) (fun _ => ?_)
    refine x_bipush (v := 75) dX4_drawCrossings_15 (by decide) ?_
    refine x_iload dX4_drawCrossings_17 rfl ?_
    refine x_imul dX4_drawCrossings_19 ?_
    refine x_bipush (v := 74) dX4_drawCrossings_20 (by decide) ?_
    refine x_iadd dX4_drawCrossings_22 ?_
    refine x_topi (y := nI (75 * x + 74)) (by rw [nl_mul]; exact nI_add _ 74) ?_
    refine x_ldc cnX4_211 dX4_drawCrossings_23 ?_
    refine x_irem dX4_drawCrossings_25 (by decide) ?_
    refine x_topi (n_rem (b := 65537) (by omega) (by decide) (by decide)) ?_
    have hx' : (75 * x + 74) % 65537 < 65537 := Nat.mod_lt _ (by decide)
    generalize (75 * x + 74) % 65537 = x' at hq hx' ⊢
    refine x_istore dX4_drawCrossings_26 (by decide) ?_
    refine x_aload_n (i := 0) dX4_drawCrossings_28 rfl rfl ?_
    refine x_get flX4_34 dX4_drawCrossings_29 (by first | assumption | decide) (by first | assumption | exact x_up_s | (refine (x_up_n (by first | assumption | decide)).trans ?_; first | assumption | exact x_up_s | (refine (x_up_n (by first | assumption | decide)).trans ?_; first | assumption | exact x_up_s | (refine (x_up_n (by first | assumption | decide)).trans ?_; first | assumption | exact x_up_s | (refine (x_up_n (by first | assumption | decide)).trans ?_; first | assumption | exact x_up_s | (refine (x_up_n (by first | assumption | decide)).trans ?_; first | assumption | exact x_up_s | (refine (x_up_n (by first | assumption | decide)).trans ?_; first | assumption | exact x_up_s | (refine (x_up_n (by first | assumption | decide)).trans ?_; first | assumption | exact x_up_s)))))))) rfl ?_
    refine x_iload dX4_drawCrossings_32 rfl ?_
    refine x_bipush (v := 8) dX4_drawCrossings_34 (by decide) ?_
    refine x_irem dX4_drawCrossings_36 (by decide) ?_
    refine x_topi (n_rem (b := 8) (by omega) (by decide) (by decide)) ?_
    refine x_iconst (v := (-1)) dX4_drawCrossings_37 (by decide) ?_
    refine x_invV clX4_197 dX4_drawCrossings_38 (cB_write d 9 (by decide) _ x_up_s hb hw (x' % 8) (by omega) (-1) 0 (by decide) (by decide)) (by omega) rfl (by first | assumption | decide) (by first | assumption | exact x_up_s | (refine (x_up_n (by first | assumption | decide)).trans ?_; first | assumption | exact x_up_s | (refine (x_up_n (by first | assumption | decide)).trans ?_; first | assumption | exact x_up_s | (refine (x_up_n (by first | assumption | decide)).trans ?_; first | assumption | exact x_up_s | (refine (x_up_n (by first | assumption | decide)).trans ?_; first | assumption | exact x_up_s | (refine (x_up_n (by first | assumption | decide)).trans ?_; first | assumption | exact x_up_s | (refine (x_up_n (by first | assumption | decide)).trans ?_; first | assumption | exact x_up_s | (refine (x_up_n (by first | assumption | decide)).trans ?_; first | assumption | exact x_up_s)))))))) rfl (Nat.le_of_ble_eq_true rfl) ?_
    rintro r h' ⟨rfl, rfl⟩
    rw [x_up_up]
    have hb2 : okB L (bw w L (x' % 8, 0) b) := okB_bw hb (by show _ % 8 ≤ 8; omega) (by show 0 < 64; decide)
    generalize bw w L (x' % 8, 0) b = b2 at hq hb2 ⊢
    cases p with
    | none =>
      dsimp only at hq
      refine x_aload_n (i := 0) dX4_drawCrossings_41 rfl rfl ?_
      refine x_get flX4_34 dX4_drawCrossings_42 (by first | assumption | decide) (by first | assumption | exact x_up_s | (refine (x_up_n (by first | assumption | decide)).trans ?_; first | assumption | exact x_up_s | (refine (x_up_n (by first | assumption | decide)).trans ?_; first | assumption | exact x_up_s | (refine (x_up_n (by first | assumption | decide)).trans ?_; first | assumption | exact x_up_s | (refine (x_up_n (by first | assumption | decide)).trans ?_; first | assumption | exact x_up_s | (refine (x_up_n (by first | assumption | decide)).trans ?_; first | assumption | exact x_up_s | (refine (x_up_n (by first | assumption | decide)).trans ?_; first | assumption | exact x_up_s | (refine (x_up_n (by first | assumption | decide)).trans ?_; first | assumption | exact x_up_s)))))))) rfl ?_
      refine x_iload_n (i := 3) dX4_drawCrossings_45 rfl rfl ?_
      refine x_invV clX4_200 dX4_drawCrossings_46 (cB_holds_m1 d 9 (by decide) _ x_up_s) (by omega) rfl (by first | assumption | decide) (by first | assumption | exact x_up_s | (refine (x_up_n (by first | assumption | decide)).trans ?_; first | assumption | exact x_up_s | (refine (x_up_n (by first | assumption | decide)).trans ?_; first | assumption | exact x_up_s | (refine (x_up_n (by first | assumption | decide)).trans ?_; first | assumption | exact x_up_s | (refine (x_up_n (by first | assumption | decide)).trans ?_; first | assumption | exact x_up_s | (refine (x_up_n (by first | assumption | decide)).trans ?_; first | assumption | exact x_up_s | (refine (x_up_n (by first | assumption | decide)).trans ?_; first | assumption | exact x_up_s | (refine (x_up_n (by first | assumption | decide)).trans ?_; first | assumption | exact x_up_s)))))))) rfl (Nat.le_of_ble_eq_true rfl) ?_
      rintro r h' ⟨rfl, rfl⟩
      refine x_if_eq 55 dX4_drawCrossings_49 (by decide) (fun _ => ?_) (fun hc => absurd (rfl) hc)
      first | refine x_incN dX4_drawCrossings_55 rfl (by decide) ?_ | refine x_iinc dX4_drawCrossings_55 rfl rfl (by decide) ?_
      refine x_goto 9 dX4_drawCrossings_58 (by decide) ?_
      exact x_wk (ih (k + 1) x' b2 a (by omega) hx' hb2 hq) ⟨rfl, rfl, rfl, rfl, rfl, rfl, rfl, trivial⟩
    | some q =>
      have hq8 := hp q rfl
      dsimp only at hq
      refine x_aload_n (i := 0) dX4_drawCrossings_41 rfl rfl ?_
      refine x_get flX4_34 dX4_drawCrossings_42 (by first | assumption | decide) (by first | assumption | exact x_up_s | (refine (x_up_n (by first | assumption | decide)).trans ?_; first | assumption | exact x_up_s | (refine (x_up_n (by first | assumption | decide)).trans ?_; first | assumption | exact x_up_s | (refine (x_up_n (by first | assumption | decide)).trans ?_; first | assumption | exact x_up_s | (refine (x_up_n (by first | assumption | decide)).trans ?_; first | assumption | exact x_up_s | (refine (x_up_n (by first | assumption | decide)).trans ?_; first | assumption | exact x_up_s | (refine (x_up_n (by first | assumption | decide)).trans ?_; first | assumption | exact x_up_s | (refine (x_up_n (by first | assumption | decide)).trans ?_; first | assumption | exact x_up_s)))))))) rfl ?_
      refine x_iload_n (i := 3) dX4_drawCrossings_45 rfl rfl ?_
      refine x_invV clX4_200 dX4_drawCrossings_46 (cB_holds d 9 (by decide) _ x_up_s hb2 q (by omega)) (by omega) rfl (by first | assumption | decide) (by first | assumption | exact x_up_s | (refine (x_up_n (by first | assumption | decide)).trans ?_; first | assumption | exact x_up_s | (refine (x_up_n (by first | assumption | decide)).trans ?_; first | assumption | exact x_up_s | (refine (x_up_n (by first | assumption | decide)).trans ?_; first | assumption | exact x_up_s | (refine (x_up_n (by first | assumption | decide)).trans ?_; first | assumption | exact x_up_s | (refine (x_up_n (by first | assumption | decide)).trans ?_; first | assumption | exact x_up_s | (refine (x_up_n (by first | assumption | decide)).trans ?_; first | assumption | exact x_up_s | (refine (x_up_n (by first | assumption | decide)).trans ?_; first | assumption | exact x_up_s)))))))) rfl (Nat.le_of_ble_eq_true rfl) ?_
      rintro r h' ⟨rfl, rfl⟩
      cases hh : bhas q b2 with
      | false =>
        rw [hh] at hq
        simp only [Bool.false_eq_true, if_false] at hq
        refine x_if_eq 55 dX4_drawCrossings_49 (by decide) (fun _ => ?_) (fun hc => absurd (rfl) hc)
        first | refine x_incN dX4_drawCrossings_55 rfl (by decide) ?_ | refine x_iinc dX4_drawCrossings_55 rfl rfl (by decide) ?_
        refine x_goto 9 dX4_drawCrossings_58 (by decide) ?_
        exact x_wk (ih (k + 1) x' b2 a (by omega) hx' hb2 hq) ⟨rfl, rfl, rfl, rfl, rfl, rfl, rfl, trivial⟩
      | true =>
        rw [hh] at hq
        simp only [if_true] at hq
        refine x_if_eq 55 dX4_drawCrossings_49 (by decide) (fun hc => absurd hc (by decide)) (fun _ => ?_)
        first | refine x_incN dX4_drawCrossings_52 rfl (by decide) ?_ | refine x_iinc dX4_drawCrossings_52 rfl rfl (by decide) ?_
        first | refine x_incN dX4_drawCrossings_55 rfl (by decide) ?_ | refine x_iinc dX4_drawCrossings_55 rfl rfl (by decide) ?_
        refine x_goto 9 dX4_drawCrossings_58 (by decide) ?_
        exact x_wk (ih (k + 1) x' b2 (a + 1) (by omega) hx' hb2 hq) ⟨rfl, rfl, rfl, rfl, rfl, rfl, rfl, trivial⟩
set_option maxRecDepth 100000 in
set_option maxHeartbeats 4000000 in
theorem cX_draw (d : Nat) (h : x_H) (hX : h 0 = x_x) {L w : Nat} {b : Bd} (hB : h 9 = x_bd L w b) (hb : okB L b) (hw : w ≤ 2) (p : Option Nat) (hp : ∀ q, p = some q → q < 8) (s m : Nat) (hs : s < 65537) (hm : m < 2 ^ 31) : x_Ct (d + 3) mX4_drawCrossings [.ref 0, .int (nI s), .int (nI m), .int (oI p)] h (fun r h' => r = some (.int (nI (drA w L p m s b 0).1)) ∧ h' = x_up h 9 (x_bd L w (drA w L p m s b 0).2)) := by
  refine x_enter pnX4_drawCrossings (Nat.le_of_ble_eq_true rfl) ?_
  refine x_iconst (v := 0) dX4_drawCrossings_0 (by decide) ?_
  refine x_istore dX4_drawCrossings_1 (by decide) ?_
  refine x_iload_n (i := 1) dX4_drawCrossings_3 rfl rfl ?_
  refine x_istore dX4_drawCrossings_4 (by decide) ?_
  refine x_iconst (v := 0) dX4_drawCrossings_6 (by decide) ?_
  refine x_istore dX4_drawCrossings_7 (by decide) ?_
  refine x_hp (x_up_eta hB).symm ?_
  exact x_wk (cX_draw_loop d h hX hw p hp _ m hm _ m 0 s b 0 (by omega) hs hb ⟨rfl, rfl⟩) ⟨rfl, rfl, rfl, rfl, rfl, rfl, rfl, trivial⟩
/-- boys ahead of looks: how many in all, the board, the plan (6 places) -/
abbrev x_ia (n : Nat) (f : Nat → Int32) : x_E := .inl (0, n, .inl f)
def plA (w L : Nat) (cs : Nat → Nat) (m p : Nat) : Nat → Nat → Nat → Nat → Bd → (Nat → Int32) → Nat × Bd × (Nat → Int32)
  | 0, _, _, a, b, g => (a, b, g)
  | f + 1, i, k, a, b, g =>
    let b1 := bst w L cs i b
    if lk1 m (cs i) = true ∧ k < 6 then
      plA w L cs m p f (i + 1) (k + 1) (a + (pout w L p L b1).1) (pout w L p L b1).2 (upd g k (nI (pout w L p L b1).1))
    else plA w L cs m p f (i + 1) k a b1 g
set_option maxRecDepth 100000 in
set_option maxHeartbeats 4000000 in
theorem cX_plan_loop (d : Nat) (h : x_H) {n : Nat} {cs : Nat → Nat} (hX : h 0 = x_x) (hD : h 1 = x_dy n) (hG : h 2 = x_sg cs) (hok : okD n cs) {L w : Nat} (hL1 : 1 ≤ L) (hL9 : L ≤ 9) (hw : w ≤ 2) (m p : Nat) (hm : m < 2 ^ 31) (hp : p < 8) (Q : Option Value → x_H → Prop) :
    ∀ (f i k a : Nat) (b : Bd) (g : Nat → Int32), i + f = n → k ≤ i → okB L b → Q (some (.int (nI (plA w L cs m p f i k a b g).1))) (x_up (x_up h 20 (x_ia 6 (plA w L cs m p f i k a b g).2.2)) 9 (x_bd L w (plA w L cs m p f i k a b g).2.1)) →
      x_V (d + 4) mX4_planBoys 29 (x_ls [some (.ref 0), some (.int (nI m)), some (.int (nI p)), some (.int (nI a)), some (.int (nI k)), some (.int (nI i))]) [] (x_up (x_up h 20 (x_ia 6 g)) 9 (x_bd L w b)) Q := by
  have hn := hok.1
  intro f
  induction f with
  | zero =>
    intro i k a b g hi hk hb hq
    refine x_iload dX4_planBoys_29 rfl ?_
    refine x_aload_n (i := 0) dX4_planBoys_31 rfl rfl ?_
    refine x_get flX4_12 dX4_planBoys_32 (by first | assumption | decide) (by first | assumption | exact x_up_s | (refine (x_up_n (by first | assumption | decide)).trans ?_; first | assumption | exact x_up_s | (refine (x_up_n (by first | assumption | decide)).trans ?_; first | assumption | exact x_up_s | (refine (x_up_n (by first | assumption | decide)).trans ?_; first | assumption | exact x_up_s | (refine (x_up_n (by first | assumption | decide)).trans ?_; first | assumption | exact x_up_s | (refine (x_up_n (by first | assumption | decide)).trans ?_; first | assumption | exact x_up_s | (refine (x_up_n (by first | assumption | decide)).trans ?_; first | assumption | exact x_up_s | (refine (x_up_n (by first | assumption | decide)).trans ?_; first | assumption | exact x_up_s)))))))) rfl ?_
    refine x_get flX4_68 dX4_planBoys_35 (by first | assumption | decide) (by first | assumption | exact x_up_s | (refine (x_up_n (by first | assumption | decide)).trans ?_; first | assumption | exact x_up_s | (refine (x_up_n (by first | assumption | decide)).trans ?_; first | assumption | exact x_up_s | (refine (x_up_n (by first | assumption | decide)).trans ?_; first | assumption | exact x_up_s | (refine (x_up_n (by first | assumption | decide)).trans ?_; first | assumption | exact x_up_s | (refine (x_up_n (by first | assumption | decide)).trans ?_; first | assumption | exact x_up_s | (refine (x_up_n (by first | assumption | decide)).trans ?_; first | assumption | exact x_up_s | (refine (x_up_n (by first | assumption | decide)).trans ?_; first | assumption | exact x_up_s)))))))) rfl ?_
    refine x_icmp_ge 104 dX4_planBoys_38 (by decide) (fun _ => ?_) (fun hc => absurd (nI_le (by omega) (by omega)) hc)
    refine x_iload_n (i := 3) dX4_planBoys_104 rfl rfl ?_
    refine x_iret dX4_planBoys_105 rfl hq
  | succ f ih =>
    intro i k a b g hi hk hb hq
    have hcd : cd n cs (nI i) = cs i := cd_in (by omega) hn
    unfold plA at hq
    dsimp only at hq
    refine x_iload dX4_planBoys_29 rfl ?_
    refine x_aload_n (i := 0) dX4_planBoys_31 rfl rfl ?_
    refine x_get flX4_12 dX4_planBoys_32 (by first | assumption | decide) (by first | assumption | exact x_up_s | (refine (x_up_n (by first | assumption | decide)).trans ?_; first | assumption | exact x_up_s | (refine (x_up_n (by first | assumption | decide)).trans ?_; first | assumption | exact x_up_s | (refine (x_up_n (by first | assumption | decide)).trans ?_; first | assumption | exact x_up_s | (refine (x_up_n (by first | assumption | decide)).trans ?_; first | assumption | exact x_up_s | (refine (x_up_n (by first | assumption | decide)).trans ?_; first | assumption | exact x_up_s | (refine (x_up_n (by first | assumption | decide)).trans ?_; first | assumption | exact x_up_s | (refine (x_up_n (by first | assumption | decide)).trans ?_; first | assumption | exact x_up_s)))))))) rfl ?_
    refine x_get flX4_68 dX4_planBoys_35 (by first | assumption | decide) (by first | assumption | exact x_up_s | (refine (x_up_n (by first | assumption | decide)).trans ?_; first | assumption | exact x_up_s | (refine (x_up_n (by first | assumption | decide)).trans ?_; first | assumption | exact x_up_s | (refine (x_up_n (by first | assumption | decide)).trans ?_; first | assumption | exact x_up_s | (refine (x_up_n (by first | assumption | decide)).trans ?_; first | assumption | exact x_up_s | (refine (x_up_n (by first | assumption | decide)).trans ?_; first | assumption | exact x_up_s | (refine (x_up_n (by first | assumption | decide)).trans ?_; first | assumption | exact x_up_s | (refine (x_up_n (by first | assumption | decide)).trans ?_; first | assumption | exact x_up_s)))))))) rfl ?_
    refine x_icmp_ge 104 dX4_planBoys_38 (by decide) (fun hc => absurd hc (nI_ge (by omega) (by omega))) (fun _ => ?_)
    refine x_aload_n (i := 0) dX4_planBoys_41 rfl rfl ?_
    refine x_iload dX4_planBoys_42 rfl ?_
    refine x_invV clX4_96 dX4_planBoys_44 (cX_step d _ (by first | assumption | exact x_up_s | (refine (x_up_n (by first | assumption | decide)).trans ?_; first | assumption | exact x_up_s | (refine (x_up_n (by first | assumption | decide)).trans ?_; first | assumption | exact x_up_s | (refine (x_up_n (by first | assumption | decide)).trans ?_; first | assumption | exact x_up_s | (refine (x_up_n (by first | assumption | decide)).trans ?_; first | assumption | exact x_up_s | (refine (x_up_n (by first | assumption | decide)).trans ?_; first | assumption | exact x_up_s | (refine (x_up_n (by first | assumption | decide)).trans ?_; first | assumption | exact x_up_s | (refine (x_up_n (by first | assumption | decide)).trans ?_; first | assumption | exact x_up_s)))))))) (by first | assumption | exact x_up_s | (refine (x_up_n (by first | assumption | decide)).trans ?_; first | assumption | exact x_up_s | (refine (x_up_n (by first | assumption | decide)).trans ?_; first | assumption | exact x_up_s | (refine (x_up_n (by first | assumption | decide)).trans ?_; first | assumption | exact x_up_s | (refine (x_up_n (by first | assumption | decide)).trans ?_; first | assumption | exact x_up_s | (refine (x_up_n (by first | assumption | decide)).trans ?_; first | assumption | exact x_up_s | (refine (x_up_n (by first | assumption | decide)).trans ?_; first | assumption | exact x_up_s | (refine (x_up_n (by first | assumption | decide)).trans ?_; first | assumption | exact x_up_s)))))))) (by first | assumption | exact x_up_s | (refine (x_up_n (by first | assumption | decide)).trans ?_; first | assumption | exact x_up_s | (refine (x_up_n (by first | assumption | decide)).trans ?_; first | assumption | exact x_up_s | (refine (x_up_n (by first | assumption | decide)).trans ?_; first | assumption | exact x_up_s | (refine (x_up_n (by first | assumption | decide)).trans ?_; first | assumption | exact x_up_s | (refine (x_up_n (by first | assumption | decide)).trans ?_; first | assumption | exact x_up_s | (refine (x_up_n (by first | assumption | decide)).trans ?_; first | assumption | exact x_up_s | (refine (x_up_n (by first | assumption | decide)).trans ?_; first | assumption | exact x_up_s)))))))) hok x_up_s hb hw i (by omega)) (by omega) rfl (by first | assumption | decide) (by first | assumption | exact x_up_s | (refine (x_up_n (by first | assumption | decide)).trans ?_; first | assumption | exact x_up_s | (refine (x_up_n (by first | assumption | decide)).trans ?_; first | assumption | exact x_up_s | (refine (x_up_n (by first | assumption | decide)).trans ?_; first | assumption | exact x_up_s | (refine (x_up_n (by first | assumption | decide)).trans ?_; first | assumption | exact x_up_s | (refine (x_up_n (by first | assumption | decide)).trans ?_; first | assumption | exact x_up_s | (refine (x_up_n (by first | assumption | decide)).trans ?_; first | assumption | exact x_up_s | (refine (x_up_n (by first | assumption | decide)).trans ?_; first | assumption | exact x_up_s)))))))) rfl (Nat.le_of_ble_eq_true rfl) ?_
    rintro r h' ⟨rfl, rfl⟩
    rw [x_up_up]
    have hb2 : okB L (bst w L cs i b) := okB_bst hb (by omega)
    generalize bst w L cs i b = b2 at hq hb2 ⊢
    refine x_aload_n (i := 0) dX4_planBoys_47 rfl rfl ?_
    refine x_get flX4_12 dX4_planBoys_48 (by first | assumption | decide) (by first | assumption | exact x_up_s | (refine (x_up_n (by first | assumption | decide)).trans ?_; first | assumption | exact x_up_s | (refine (x_up_n (by first | assumption | decide)).trans ?_; first | assumption | exact x_up_s | (refine (x_up_n (by first | assumption | decide)).trans ?_; first | assumption | exact x_up_s | (refine (x_up_n (by first | assumption | decide)).trans ?_; first | assumption | exact x_up_s | (refine (x_up_n (by first | assumption | decide)).trans ?_; first | assumption | exact x_up_s | (refine (x_up_n (by first | assumption | decide)).trans ?_; first | assumption | exact x_up_s | (refine (x_up_n (by first | assumption | decide)).trans ?_; first | assumption | exact x_up_s)))))))) rfl ?_
    refine x_iload dX4_planBoys_51 rfl ?_
    refine x_iload_n (i := 1) dX4_planBoys_53 rfl rfl ?_
    refine x_invV clX4_203 dX4_planBoys_54 (cD_looksOneOf (d + 1) _ (by first | assumption | exact x_up_s | (refine (x_up_n (by first | assumption | decide)).trans ?_; first | assumption | exact x_up_s | (refine (x_up_n (by first | assumption | decide)).trans ?_; first | assumption | exact x_up_s | (refine (x_up_n (by first | assumption | decide)).trans ?_; first | assumption | exact x_up_s | (refine (x_up_n (by first | assumption | decide)).trans ?_; first | assumption | exact x_up_s | (refine (x_up_n (by first | assumption | decide)).trans ?_; first | assumption | exact x_up_s | (refine (x_up_n (by first | assumption | decide)).trans ?_; first | assumption | exact x_up_s | (refine (x_up_n (by first | assumption | decide)).trans ?_; first | assumption | exact x_up_s)))))))) (by first | assumption | exact x_up_s | (refine (x_up_n (by first | assumption | decide)).trans ?_; first | assumption | exact x_up_s | (refine (x_up_n (by first | assumption | decide)).trans ?_; first | assumption | exact x_up_s | (refine (x_up_n (by first | assumption | decide)).trans ?_; first | assumption | exact x_up_s | (refine (x_up_n (by first | assumption | decide)).trans ?_; first | assumption | exact x_up_s | (refine (x_up_n (by first | assumption | decide)).trans ?_; first | assumption | exact x_up_s | (refine (x_up_n (by first | assumption | decide)).trans ?_; first | assumption | exact x_up_s | (refine (x_up_n (by first | assumption | decide)).trans ?_; first | assumption | exact x_up_s)))))))) hok (nI i) m hm) (by omega) rfl (by first | assumption | decide) (by first | assumption | exact x_up_s | (refine (x_up_n (by first | assumption | decide)).trans ?_; first | assumption | exact x_up_s | (refine (x_up_n (by first | assumption | decide)).trans ?_; first | assumption | exact x_up_s | (refine (x_up_n (by first | assumption | decide)).trans ?_; first | assumption | exact x_up_s | (refine (x_up_n (by first | assumption | decide)).trans ?_; first | assumption | exact x_up_s | (refine (x_up_n (by first | assumption | decide)).trans ?_; first | assumption | exact x_up_s | (refine (x_up_n (by first | assumption | decide)).trans ?_; first | assumption | exact x_up_s | (refine (x_up_n (by first | assumption | decide)).trans ?_; first | assumption | exact x_up_s)))))))) rfl (Nat.le_of_ble_eq_true rfl) ?_
    rintro r h' ⟨rfl, rfl⟩
    rw [hcd]
    cases hl : lk1 m (cs i) with
    | false =>
      rw [if_neg (fun q => by rw [hl] at q; exact absurd q.1 (by decide))] at hq
      refine x_if_eq 98 dX4_planBoys_57 (by decide) (fun _ => ?_) (fun hc => absurd (rfl) hc)
      first | refine x_incN dX4_planBoys_98 rfl (by decide) ?_ | refine x_iinc dX4_planBoys_98 rfl rfl (by decide) ?_
      refine x_goto 29 dX4_planBoys_101 (by decide) ?_
      exact x_wk (ih (i + 1) k a b2 g (by omega) (by omega) hb2 hq) ⟨rfl, rfl, rfl, rfl, rfl, rfl, trivial⟩
    | true =>
      refine x_if_eq 98 dX4_planBoys_57 (by decide) (fun hc => absurd hc (by decide)) (fun _ => ?_)
      refine x_iload dX4_planBoys_60 rfl ?_
      refine x_aload_n (i := 0) dX4_planBoys_62 rfl rfl ?_
      refine x_get flX4_45 dX4_planBoys_63 (by first | assumption | decide) (by first | assumption | exact x_up_s | (refine (x_up_n (by first | assumption | decide)).trans ?_; first | assumption | exact x_up_s | (refine (x_up_n (by first | assumption | decide)).trans ?_; first | assumption | exact x_up_s | (refine (x_up_n (by first | assumption | decide)).trans ?_; first | assumption | exact x_up_s | (refine (x_up_n (by first | assumption | decide)).trans ?_; first | assumption | exact x_up_s | (refine (x_up_n (by first | assumption | decide)).trans ?_; first | assumption | exact x_up_s | (refine (x_up_n (by first | assumption | decide)).trans ?_; first | assumption | exact x_up_s | (refine (x_up_n (by first | assumption | decide)).trans ?_; first | assumption | exact x_up_s)))))))) rfl ?_
      refine x_alen dX4_planBoys_66 (by first | assumption | decide) (by first | assumption | exact x_up_s | (refine (x_up_n (by first | assumption | decide)).trans ?_; first | assumption | exact x_up_s | (refine (x_up_n (by first | assumption | decide)).trans ?_; first | assumption | exact x_up_s | (refine (x_up_n (by first | assumption | decide)).trans ?_; first | assumption | exact x_up_s | (refine (x_up_n (by first | assumption | decide)).trans ?_; first | assumption | exact x_up_s | (refine (x_up_n (by first | assumption | decide)).trans ?_; first | assumption | exact x_up_s | (refine (x_up_n (by first | assumption | decide)).trans ?_; first | assumption | exact x_up_s | (refine (x_up_n (by first | assumption | decide)).trans ?_; first | assumption | exact x_up_s)))))))) (by decide) ?_
      refine x_icmp_ge 98 dX4_planBoys_67 (by decide) (fun hc => ?_) (fun hc => ?_)
      · have hk6 : ¬ k < 6 := by have := (nI_leI (a := 6) (by decide) (by omega)).mp hc; omega
        rw [if_neg (fun q => hk6 q.2)] at hq
        first | refine x_incN dX4_planBoys_98 rfl (by decide) ?_ | refine x_iinc dX4_planBoys_98 rfl rfl (by decide) ?_
        refine x_goto 29 dX4_planBoys_101 (by decide) ?_
        exact x_wk (ih (i + 1) k a b2 g (by omega) (by omega) hb2 hq) ⟨rfl, rfl, rfl, rfl, rfl, rfl, trivial⟩
      · have hk6 : k < 6 := by
          rcases Nat.lt_or_ge k 6 with q | q
          · exact q
          · exact absurd (nI_le (a := 6) q (by omega)) hc
        rw [if_pos ⟨hl, hk6⟩] at hq
        refine x_aload_n (i := 0) dX4_planBoys_70 rfl rfl ?_
        refine x_get flX4_45 dX4_planBoys_71 (by first | assumption | decide) (by first | assumption | exact x_up_s | (refine (x_up_n (by first | assumption | decide)).trans ?_; first | assumption | exact x_up_s | (refine (x_up_n (by first | assumption | decide)).trans ?_; first | assumption | exact x_up_s | (refine (x_up_n (by first | assumption | decide)).trans ?_; first | assumption | exact x_up_s | (refine (x_up_n (by first | assumption | decide)).trans ?_; first | assumption | exact x_up_s | (refine (x_up_n (by first | assumption | decide)).trans ?_; first | assumption | exact x_up_s | (refine (x_up_n (by first | assumption | decide)).trans ?_; first | assumption | exact x_up_s | (refine (x_up_n (by first | assumption | decide)).trans ?_; first | assumption | exact x_up_s)))))))) rfl ?_
        refine x_iload dX4_planBoys_74 rfl ?_
        refine x_aload_n (i := 0) dX4_planBoys_76 rfl rfl ?_
        refine x_get flX4_34 dX4_planBoys_77 (by first | assumption | decide) (by first | assumption | exact x_up_s | (refine (x_up_n (by first | assumption | decide)).trans ?_; first | assumption | exact x_up_s | (refine (x_up_n (by first | assumption | decide)).trans ?_; first | assumption | exact x_up_s | (refine (x_up_n (by first | assumption | decide)).trans ?_; first | assumption | exact x_up_s | (refine (x_up_n (by first | assumption | decide)).trans ?_; first | assumption | exact x_up_s | (refine (x_up_n (by first | assumption | decide)).trans ?_; first | assumption | exact x_up_s | (refine (x_up_n (by first | assumption | decide)).trans ?_; first | assumption | exact x_up_s | (refine (x_up_n (by first | assumption | decide)).trans ?_; first | assumption | exact x_up_s)))))))) rfl ?_
        refine x_iload_n (i := 2) dX4_planBoys_80 rfl rfl ?_
        refine x_invV clX4_180 dX4_planBoys_81 (cB_pushOut d 9 (by decide) _ x_up_s hb2 hw p (by omega)) (by omega) rfl (by first | assumption | decide) (by first | assumption | exact x_up_s | (refine (x_up_n (by first | assumption | decide)).trans ?_; first | assumption | exact x_up_s | (refine (x_up_n (by first | assumption | decide)).trans ?_; first | assumption | exact x_up_s | (refine (x_up_n (by first | assumption | decide)).trans ?_; first | assumption | exact x_up_s | (refine (x_up_n (by first | assumption | decide)).trans ?_; first | assumption | exact x_up_s | (refine (x_up_n (by first | assumption | decide)).trans ?_; first | assumption | exact x_up_s | (refine (x_up_n (by first | assumption | decide)).trans ?_; first | assumption | exact x_up_s | (refine (x_up_n (by first | assumption | decide)).trans ?_; first | assumption | exact x_up_s)))))))) rfl (Nat.le_of_ble_eq_true rfl) ?_
        rintro r h' ⟨rfl, rfl⟩
        rw [x_up_up]
        have ho := okB_pout (w := w) (L := L) (nm := p) L b2 hb2
        generalize pout w L p L b2 = po at hq ho ⊢
        refine x_iast k dX4_planBoys_84 (by first | assumption | decide) (by first | assumption | exact x_up_s | (refine (x_up_n (by first | assumption | decide)).trans ?_; first | assumption | exact x_up_s | (refine (x_up_n (by first | assumption | decide)).trans ?_; first | assumption | exact x_up_s | (refine (x_up_n (by first | assumption | decide)).trans ?_; first | assumption | exact x_up_s | (refine (x_up_n (by first | assumption | decide)).trans ?_; first | assumption | exact x_up_s | (refine (x_up_n (by first | assumption | decide)).trans ?_; first | assumption | exact x_up_s | (refine (x_up_n (by first | assumption | decide)).trans ?_; first | assumption | exact x_up_s | (refine (x_up_n (by first | assumption | decide)).trans ?_; first | assumption | exact x_up_s)))))))) rfl hk6 (by decide) ?_
        refine x_hp (h' := x_up (x_up h 20 (x_ia 6 (upd g k (nI po.1)))) 9 (x_bd L w po.2)) (by rw [x_up_cm (by decide), x_up_up]) ?_
        refine x_iload_n (i := 3) dX4_planBoys_85 rfl rfl ?_
        refine x_aload_n (i := 0) dX4_planBoys_86 rfl rfl ?_
        refine x_get flX4_45 dX4_planBoys_87 (by first | assumption | decide) (by first | assumption | exact x_up_s | (refine (x_up_n (by first | assumption | decide)).trans ?_; first | assumption | exact x_up_s | (refine (x_up_n (by first | assumption | decide)).trans ?_; first | assumption | exact x_up_s | (refine (x_up_n (by first | assumption | decide)).trans ?_; first | assumption | exact x_up_s | (refine (x_up_n (by first | assumption | decide)).trans ?_; first | assumption | exact x_up_s | (refine (x_up_n (by first | assumption | decide)).trans ?_; first | assumption | exact x_up_s | (refine (x_up_n (by first | assumption | decide)).trans ?_; first | assumption | exact x_up_s | (refine (x_up_n (by first | assumption | decide)).trans ?_; first | assumption | exact x_up_s)))))))) rfl ?_
        refine x_iload dX4_planBoys_90 rfl ?_
        refine x_iald k dX4_planBoys_92 (by first | assumption | decide) (by first | assumption | exact x_up_s | (refine (x_up_n (by first | assumption | decide)).trans ?_; first | assumption | exact x_up_s | (refine (x_up_n (by first | assumption | decide)).trans ?_; first | assumption | exact x_up_s | (refine (x_up_n (by first | assumption | decide)).trans ?_; first | assumption | exact x_up_s | (refine (x_up_n (by first | assumption | decide)).trans ?_; first | assumption | exact x_up_s | (refine (x_up_n (by first | assumption | decide)).trans ?_; first | assumption | exact x_up_s | (refine (x_up_n (by first | assumption | decide)).trans ?_; first | assumption | exact x_up_s | (refine (x_up_n (by first | assumption | decide)).trans ?_; first | assumption | exact x_up_s)))))))) rfl hk6 (by decide) ?_
        refine x_topi (y := nI po.1) (by simp [upd]) ?_
        refine x_iadd dX4_planBoys_93 ?_
        refine x_topi (nI_add _ _) ?_
        refine x_istore_n (i := 3) dX4_planBoys_94 rfl (by decide) ?_
        first | refine x_incN dX4_planBoys_95 rfl (by decide) ?_ | refine x_iinc dX4_planBoys_95 rfl rfl (by decide) ?_
        first | refine x_incN dX4_planBoys_98 rfl (by decide) ?_ | refine x_iinc dX4_planBoys_98 rfl rfl (by decide) ?_
        refine x_goto 29 dX4_planBoys_101 (by decide) ?_
        exact x_wk (ih (i + 1) (k + 1) _ _ _ (by omega) (by omega) ho.1 hq) ⟨rfl, rfl, rfl, rfl, rfl, rfl, trivial⟩
set_option maxRecDepth 100000 in
set_option maxHeartbeats 4000000 in
theorem cX_plan (d : Nat) (h : x_H) {n : Nat} {cs : Nat → Nat} (hX : h 0 = x_x) (hD : h 1 = x_dy n) (hG : h 2 = x_sg cs) (hok : okD n cs) {L w q : Nat} (hS : h 3 = x_st L w q) (hL1 : 1 ≤ L) (hL9 : L ≤ 9) (hw : w ≤ 2) {i1 i2 : Int32} {l1 l2 l3 l4 : Int64} (hB : h 9 = x_bd0 i1 i2 l1 l2 l3 l4) {g : Nat → Int32} (hP : h 20 = x_ia 6 g) (m p : Nat) (hm : m < 2 ^ 31) (hp : p < 8) : x_Ct (d + 4) mX4_planBoys [.ref 0, .int (nI m), .int (nI p)] h (fun r h' => r = some (.int (nI (plA w L cs m p n 0 0 0 [] g).1)) ∧ h' = x_up (x_up h 20 (x_ia 6 (plA w L cs m p n 0 0 0 [] g).2.2)) 9 (x_bd L w (plA w L cs m p n 0 0 0 [] g).2.1)) := by
  refine x_enter pnX4_planBoys (Nat.le_of_ble_eq_true rfl) ?_
  refine x_iconst (v := 0) dX4_planBoys_0 (by decide) ?_
  refine x_istore_n (i := 3) dX4_planBoys_1 rfl (by decide) ?_
  refine x_iconst (v := 0) dX4_planBoys_2 (by decide) ?_
  refine x_istore dX4_planBoys_3 (by decide) ?_
  refine x_aload_n (i := 0) dX4_planBoys_5 rfl rfl ?_
  refine x_get flX4_34 dX4_planBoys_6 (by first | assumption | decide) (by first | assumption | exact x_up_s | (refine (x_up_n (by first | assumption | decide)).trans ?_; first | assumption | exact x_up_s | (refine (x_up_n (by first | assumption | decide)).trans ?_; first | assumption | exact x_up_s | (refine (x_up_n (by first | assumption | decide)).trans ?_; first | assumption | exact x_up_s | (refine (x_up_n (by first | assumption | decide)).trans ?_; first | assumption | exact x_up_s | (refine (x_up_n (by first | assumption | decide)).trans ?_; first | assumption | exact x_up_s | (refine (x_up_n (by first | assumption | decide)).trans ?_; first | assumption | exact x_up_s | (refine (x_up_n (by first | assumption | decide)).trans ?_; first | assumption | exact x_up_s)))))))) rfl ?_
  refine x_aload_n (i := 0) dX4_planBoys_9 rfl rfl ?_
  refine x_get flX4_19 dX4_planBoys_10 (by first | assumption | decide) (by first | assumption | exact x_up_s | (refine (x_up_n (by first | assumption | decide)).trans ?_; first | assumption | exact x_up_s | (refine (x_up_n (by first | assumption | decide)).trans ?_; first | assumption | exact x_up_s | (refine (x_up_n (by first | assumption | decide)).trans ?_; first | assumption | exact x_up_s | (refine (x_up_n (by first | assumption | decide)).trans ?_; first | assumption | exact x_up_s | (refine (x_up_n (by first | assumption | decide)).trans ?_; first | assumption | exact x_up_s | (refine (x_up_n (by first | assumption | decide)).trans ?_; first | assumption | exact x_up_s | (refine (x_up_n (by first | assumption | decide)).trans ?_; first | assumption | exact x_up_s)))))))) rfl ?_
  refine x_get flX4_57 dX4_planBoys_13 (by first | assumption | decide) (by first | assumption | exact x_up_s | (refine (x_up_n (by first | assumption | decide)).trans ?_; first | assumption | exact x_up_s | (refine (x_up_n (by first | assumption | decide)).trans ?_; first | assumption | exact x_up_s | (refine (x_up_n (by first | assumption | decide)).trans ?_; first | assumption | exact x_up_s | (refine (x_up_n (by first | assumption | decide)).trans ?_; first | assumption | exact x_up_s | (refine (x_up_n (by first | assumption | decide)).trans ?_; first | assumption | exact x_up_s | (refine (x_up_n (by first | assumption | decide)).trans ?_; first | assumption | exact x_up_s | (refine (x_up_n (by first | assumption | decide)).trans ?_; first | assumption | exact x_up_s)))))))) rfl ?_
  refine x_aload_n (i := 0) dX4_planBoys_16 rfl rfl ?_
  refine x_get flX4_19 dX4_planBoys_17 (by first | assumption | decide) (by first | assumption | exact x_up_s | (refine (x_up_n (by first | assumption | decide)).trans ?_; first | assumption | exact x_up_s | (refine (x_up_n (by first | assumption | decide)).trans ?_; first | assumption | exact x_up_s | (refine (x_up_n (by first | assumption | decide)).trans ?_; first | assumption | exact x_up_s | (refine (x_up_n (by first | assumption | decide)).trans ?_; first | assumption | exact x_up_s | (refine (x_up_n (by first | assumption | decide)).trans ?_; first | assumption | exact x_up_s | (refine (x_up_n (by first | assumption | decide)).trans ?_; first | assumption | exact x_up_s | (refine (x_up_n (by first | assumption | decide)).trans ?_; first | assumption | exact x_up_s)))))))) rfl ?_
  refine x_get flX4_65 dX4_planBoys_20 (by first | assumption | decide) (by first | assumption | exact x_up_s | (refine (x_up_n (by first | assumption | decide)).trans ?_; first | assumption | exact x_up_s | (refine (x_up_n (by first | assumption | decide)).trans ?_; first | assumption | exact x_up_s | (refine (x_up_n (by first | assumption | decide)).trans ?_; first | assumption | exact x_up_s | (refine (x_up_n (by first | assumption | decide)).trans ?_; first | assumption | exact x_up_s | (refine (x_up_n (by first | assumption | decide)).trans ?_; first | assumption | exact x_up_s | (refine (x_up_n (by first | assumption | decide)).trans ?_; first | assumption | exact x_up_s | (refine (x_up_n (by first | assumption | decide)).trans ?_; first | assumption | exact x_up_s)))))))) rfl ?_
  refine x_invV clX4_93 dX4_planBoys_23 (cB_begin d 9 (by decide) h hB L w hL9) (by omega) rfl (by first | assumption | decide) (by first | assumption | exact x_up_s | (refine (x_up_n (by first | assumption | decide)).trans ?_; first | assumption | exact x_up_s | (refine (x_up_n (by first | assumption | decide)).trans ?_; first | assumption | exact x_up_s | (refine (x_up_n (by first | assumption | decide)).trans ?_; first | assumption | exact x_up_s | (refine (x_up_n (by first | assumption | decide)).trans ?_; first | assumption | exact x_up_s | (refine (x_up_n (by first | assumption | decide)).trans ?_; first | assumption | exact x_up_s | (refine (x_up_n (by first | assumption | decide)).trans ?_; first | assumption | exact x_up_s | (refine (x_up_n (by first | assumption | decide)).trans ?_; first | assumption | exact x_up_s)))))))) rfl (Nat.le_of_ble_eq_true rfl) ?_
  rintro r h' ⟨rfl, rfl⟩
  refine x_iconst (v := 0) dX4_planBoys_26 (by decide) ?_
  refine x_istore dX4_planBoys_27 (by decide) ?_
  refine x_hp (h' := x_up (x_up h 20 (x_ia 6 g)) 9 (x_bd L w [])) (by rw [x_up_eta hP]) ?_
  exact x_wk (cX_plan_loop d h hX hD hG hok hL1 hL9 hw m p hm hp _ n 0 0 0 [] g (by omega) (by omega) (okB_nil hL1 hL9) ⟨rfl, rfl⟩) ⟨rfl, rfl, rfl, rfl, rfl, rfl, trivial⟩
