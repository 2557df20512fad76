theorem n_shr_s {m p : Nat} (hm : m < 2 ^ 31) (hp : p < 32) : nI m >>> (nI p &&& 31) &&& 1 = b2I (m.testBit p) := by
  rw [pk_shrN hm _ p ((show ∀ p, p < 32 → ((nI p &&& 31).toBitVec.smod 32).toNat = p by decide) p hp)]
  have e : nI (m / 2 ^ p) &&& 1 = nI (m / 2 ^ p % 2) := by
    have := n_and (m / 2 ^ p) 1
    rw [Nat.and_one_is_mod] at this
    exact this
  rw [e, Nat.testBit_eq_decide_div_mod_eq]
  rcases Nat.mod_two_eq_zero_or_one (m / 2 ^ p) with q | q
  · rw [q]; rfl
  · rw [q]; rfl
/-- who has read a name, out of what each has read -/
def sbA (R : Nat → Nat) (p : Nat) : Nat → Nat → Nat → Nat
  | 0, _, a => a
  | f + 1, q, a => sbA R p f (q + 1) (if (R q).testBit p then a ||| 2 ^ q else a)
set_option maxRecDepth 100000 in
set_option maxHeartbeats 4000000 in
theorem cM_seenBy_loop (d : Nat) (h : x_H) {sz ru si pm my pl lw ev bp bi nw ka iw : Int32} {R : Nat → Nat} (hM : h 30 = x_md sz ru si pm my pl lw ev bp bi nw ka iw) (hR : h 38 = x_na 8 R) (hR8 : ∀ j, j < 8 → R j < 2 ^ 31) (p : Nat) (hp : p < 8) (Q : Option Value → x_H → Prop) :
    ∀ (f q a : Nat), q + f = 8 → Q (some (.int (nI (sbA R p f q a)))) h → x_V d mX5_seenBy 4 (x_ls [some (.ref 30), some (.int (nI p)), some (.int (nI a)), some (.int (nI q))]) [] h Q := by
  intro f
  induction f with
  | zero =>
    intro q a hq hQ
    have : q = 8 := by omega
    subst this
    refine x_iload_n (i := 3) dX5_seenBy_4 rfl rfl ?_
    refine x_bipush (v := 8) dX5_seenBy_5 (by decide) ?_
    refine x_icmp_ge 40 dX5_seenBy_7 (by decide) (fun _ => ?_) (fun hc => absurd (nI_le (a := 8) (by decide) (by decide)) hc)
    refine x_iload_n (i := 2) dX5_seenBy_40 rfl rfl ?_
    refine x_iret dX5_seenBy_41 rfl hQ
  | succ f ih =>
    intro q a hq hQ
    unfold sbA at hQ
    refine x_iload_n (i := 3) dX5_seenBy_4 rfl rfl ?_
    refine x_bipush (v := 8) dX5_seenBy_5 (by decide) ?_
    refine x_icmp_ge 40 dX5_seenBy_7 (by decide) (fun hc => absurd hc (nI_ge (b := 8) (by omega) (by decide))) (fun _ => ?_)
    refine x_iload_n (i := 2) dX5_seenBy_10 rfl rfl ?_
    refine x_aload_n (i := 0) dX5_seenBy_11 rfl rfl ?_
    refine x_get flX5_31 dX5_seenBy_12 (by first | decide | assumption) (by first | assumption | exact x_up_s | (refine (x_up_n (by first | decide | assumption)).trans ?_; first | assumption | exact x_up_s | (refine (x_up_n (by first | decide | assumption)).trans ?_; first | assumption | exact x_up_s | (refine (x_up_n (by first | decide | assumption)).trans ?_; first | assumption | exact x_up_s | (refine (x_up_n (by first | decide | assumption)).trans ?_; first | assumption | exact x_up_s | (refine (x_up_n (by first | decide | assumption)).trans ?_; first | assumption | exact x_up_s | (refine (x_up_n (by first | decide | assumption)).trans ?_; first | assumption | exact x_up_s | (refine (x_up_n (by first | decide | assumption)).trans ?_; first | assumption | exact x_up_s | (refine (x_up_n (by first | decide | assumption)).trans ?_; first | assumption | exact x_up_s | (refine (x_up_n (by first | decide | assumption)).trans ?_; first | assumption | exact x_up_s | (refine (x_up_n (by first | decide | assumption)).trans ?_; first | assumption | exact x_up_s | (refine (x_up_n (by first | decide | assumption)).trans ?_; first | assumption | exact x_up_s | (refine (x_up_n (by first | decide | assumption)).trans ?_; first | assumption | exact x_up_s | (refine (x_up_n (by first | decide | assumption)).trans ?_; first | assumption | exact x_up_s)))))))))))))) rfl ?_
    refine x_iload_n (i := 3) dX5_seenBy_15 rfl rfl ?_
    refine x_iald q dX5_seenBy_16 (by first | decide | assumption) (by first | assumption | exact x_up_s | (refine (x_up_n (by first | decide | assumption)).trans ?_; first | assumption | exact x_up_s | (refine (x_up_n (by first | decide | assumption)).trans ?_; first | assumption | exact x_up_s | (refine (x_up_n (by first | decide | assumption)).trans ?_; first | assumption | exact x_up_s | (refine (x_up_n (by first | decide | assumption)).trans ?_; first | assumption | exact x_up_s | (refine (x_up_n (by first | decide | assumption)).trans ?_; first | assumption | exact x_up_s | (refine (x_up_n (by first | decide | assumption)).trans ?_; first | assumption | exact x_up_s | (refine (x_up_n (by first | decide | assumption)).trans ?_; first | assumption | exact x_up_s | (refine (x_up_n (by first | decide | assumption)).trans ?_; first | assumption | exact x_up_s | (refine (x_up_n (by first | decide | assumption)).trans ?_; first | assumption | exact x_up_s | (refine (x_up_n (by first | decide | assumption)).trans ?_; first | assumption | exact x_up_s | (refine (x_up_n (by first | decide | assumption)).trans ?_; first | assumption | exact x_up_s | (refine (x_up_n (by first | decide | assumption)).trans ?_; first | assumption | exact x_up_s | (refine (x_up_n (by first | decide | assumption)).trans ?_; first | assumption | exact x_up_s)))))))))))))) rfl (by omega) (by decide) ?_
    refine x_iload_n (i := 1) dX5_seenBy_17 rfl rfl ?_
    refine x_ishr dX5_seenBy_18 ?_
    refine x_iconst (v := 1) dX5_seenBy_19 (by decide) ?_
    refine x_iand dX5_seenBy_20 ?_
    refine x_topi (n_shr_s (hR8 q (by omega)) (by omega)) ?_
    refine x_iconst (v := 1) dX5_seenBy_21 (by decide) ?_
    cases hb : (R q).testBit p with
    | true =>
      rw [hb, if_pos rfl] at hQ
      refine x_icmp_ne 31 dX5_seenBy_22 (by decide) (fun hc => absurd (rfl) hc) (fun _ => ?_)
      refine x_iconst (v := 1) dX5_seenBy_25 (by decide) ?_
      refine x_iload_n (i := 3) dX5_seenBy_26 rfl rfl ?_
      refine x_ishl dX5_seenBy_27 ?_
      refine x_goto 32 dX5_seenBy_28 (by decide) ?_
      refine x_ior dX5_seenBy_32 ?_
      refine x_topi (y := nI (a ||| 2 ^ q)) (by rw [n_one_shl _ (by omega), n_or]) ?_
      refine x_istore_n (i := 2) dX5_seenBy_33 rfl (by decide) ?_
      first | refine x_incN dX5_seenBy_34 rfl (by decide) ?_ | refine x_iinc dX5_seenBy_34 rfl rfl (by decide) ?_
      refine x_goto 4 dX5_seenBy_37 (by decide) ?_
      exact x_wk (ih (q + 1) _ (by omega) hQ) ⟨rfl, rfl, rfl, rfl, trivial⟩
    | false =>
      rw [hb, if_neg (by decide)] at hQ
      refine x_icmp_ne 31 dX5_seenBy_22 (by decide) (fun _ => ?_) (fun hc => absurd hc (by decide))
      refine x_iconst (v := 0) dX5_seenBy_31 (by decide) ?_
      refine x_ior dX5_seenBy_32 ?_
      refine x_topi (nI_or0 a) ?_
      refine x_istore_n (i := 2) dX5_seenBy_33 rfl (by decide) ?_
      first | refine x_incN dX5_seenBy_34 rfl (by decide) ?_ | refine x_iinc dX5_seenBy_34 rfl rfl (by decide) ?_
      refine x_goto 4 dX5_seenBy_37 (by decide) ?_
      exact x_wk (ih (q + 1) _ (by omega) hQ) ⟨rfl, rfl, rfl, rfl, trivial⟩
set_option maxRecDepth 100000 in
set_option maxHeartbeats 4000000 in
theorem cM_seenBy (d : Nat) (h : x_H) {sz ru si pm my pl lw ev bp bi nw ka iw : Int32} {R : Nat → Nat} (hM : h 30 = x_md sz ru si pm my pl lw ev bp bi nw ka iw) (hR : h 38 = x_na 8 R) (hR8 : ∀ j, j < 8 → R j < 2 ^ 31) (p : Nat) (hp : p < 8) : x_Ct d mX5_seenBy [.ref 30, .int (nI p)] h (fun r h' => r = some (.int (nI (sbA R p 8 0 0))) ∧ h' = h) := by
  refine x_enter pnX5_seenBy (Nat.le_of_ble_eq_true rfl) ?_
  refine x_iconst (v := 0) dX5_seenBy_0 (by decide) ?_
  refine x_istore_n (i := 2) dX5_seenBy_1 rfl (by decide) ?_
  refine x_iconst (v := 0) dX5_seenBy_2 (by decide) ?_
  refine x_istore_n (i := 3) dX5_seenBy_3 rfl (by decide) ?_
  exact x_wk (cM_seenBy_loop d h hM hR hR8 p hp _ 8 0 0 (by omega) ⟨rfl, rfl⟩) ⟨rfl, rfl, rfl, rfl, trivial⟩
/-- a crossing that nobody saw -/
def msP (dv Z : Nat → Nat) (i : Nat) : Bool := decide (dv i < 16) && decide (Z i = 0)
set_option maxRecDepth 100000 in
set_option maxHeartbeats 4000000 in
theorem cM_missed_loop (d : Nat) (h : x_H) {sz ru si pm my pl lw bp bi nw ka iw : Int32} {e : Nat} (hM : h 30 = x_md sz ru si pm my pl lw (nI e) bp bi nw ka iw) {g : Nat → Int32} {dv Z : Nat → Nat} (hY : h 37 = x_ia 41 g) (hZ : h 39 = x_za 41 Z) (hZ1 : ∀ j, Z j ≤ 1) (he : e ≤ 41) (hy : okY e g dv) (Q : Option Value → x_H → Prop) :
    ∀ (f i a : Nat), i + f = e → Q (some (.int (nI (a + cntF (msP dv Z) f i)))) h → x_V d mX5_missedMany 4 (x_ls [some (.ref 30), some (.int (nI a)), some (.int (nI i))]) [] h Q := by
  intro f
  induction f with
  | zero =>
    intro i a hi hq
    refine x_iload_n (i := 2) dX5_missedMany_4 rfl rfl ?_
    refine x_aload_n (i := 0) dX5_missedMany_5 rfl rfl ?_
    refine x_get flX5_110 dX5_missedMany_6 (by first | decide | assumption) (by first | assumption | exact x_up_s | (refine (x_up_n (by first | decide | assumption)).trans ?_; first | assumption | exact x_up_s | (refine (x_up_n (by first | decide | assumption)).trans ?_; first | assumption | exact x_up_s | (refine (x_up_n (by first | decide | assumption)).trans ?_; first | assumption | exact x_up_s | (refine (x_up_n (by first | decide | assumption)).trans ?_; first | assumption | exact x_up_s | (refine (x_up_n (by first | decide | assumption)).trans ?_; first | assumption | exact x_up_s | (refine (x_up_n (by first | decide | assumption)).trans ?_; first | assumption | exact x_up_s | (refine (x_up_n (by first | decide | assumption)).trans ?_; first | assumption | exact x_up_s | (refine (x_up_n (by first | decide | assumption)).trans ?_; first | assumption | exact x_up_s | (refine (x_up_n (by first | decide | assumption)).trans ?_; first | assumption | exact x_up_s | (refine (x_up_n (by first | decide | assumption)).trans ?_; first | assumption | exact x_up_s | (refine (x_up_n (by first | decide | assumption)).trans ?_; first | assumption | exact x_up_s | (refine (x_up_n (by first | decide | assumption)).trans ?_; first | assumption | exact x_up_s | (refine (x_up_n (by first | decide | assumption)).trans ?_; first | assumption | exact x_up_s)))))))))))))) rfl ?_
    refine x_icmp_ge 46 dX5_missedMany_9 (by decide) (fun _ => ?_) (fun hc => absurd (nI_le (by omega) (by omega)) hc)
    refine x_iload_n (i := 1) dX5_missedMany_46 rfl rfl ?_
    refine x_iret dX5_missedMany_47 rfl hq
  | succ f ih =>
    intro i a hi hq
    obtain ⟨hg, hdv⟩ := hy i (by omega)
    have hz1 := hZ1 i
    unfold cntF at hq
    have no : msP dv Z i = false → x_V d mX5_missedMany 37 (x_ls [some (.ref 30), some (.int (nI a)), some (.int (nI i))]) [.int (nI a)] h Q := by
      intro hm
      rw [hm, if_neg (by decide), Nat.zero_add] at hq
      refine x_iconst (v := 0) dX5_missedMany_37 (by decide) ?_
      refine x_iadd dX5_missedMany_38 ?_
      refine x_topi (y := nI a) (by show nI a + nI 0 = nI a; rw [nI_add]; rfl) ?_
      refine x_istore_n (i := 1) dX5_missedMany_39 rfl (by decide) ?_
      first | refine x_incN dX5_missedMany_40 rfl (by decide) ?_ | refine x_iinc dX5_missedMany_40 rfl rfl (by decide) ?_
      refine x_goto 4 dX5_missedMany_43 (by decide) ?_
      exact x_wk (ih (i + 1) a (by omega) hq) ⟨rfl, rfl, rfl, trivial⟩
    refine x_iload_n (i := 2) dX5_missedMany_4 rfl rfl ?_
    refine x_aload_n (i := 0) dX5_missedMany_5 rfl rfl ?_
    refine x_get flX5_110 dX5_missedMany_6 (by first | decide | assumption) (by first | assumption | exact x_up_s | (refine (x_up_n (by first | decide | assumption)).trans ?_; first | assumption | exact x_up_s | (refine (x_up_n (by first | decide | assumption)).trans ?_; first | assumption | exact x_up_s | (refine (x_up_n (by first | decide | assumption)).trans ?_; first | assumption | exact x_up_s | (refine (x_up_n (by first | decide | assumption)).trans ?_; first | assumption | exact x_up_s | (refine (x_up_n (by first | decide | assumption)).trans ?_; first | assumption | exact x_up_s | (refine (x_up_n (by first | decide | assumption)).trans ?_; first | assumption | exact x_up_s | (refine (x_up_n (by first | decide | assumption)).trans ?_; first | assumption | exact x_up_s | (refine (x_up_n (by first | decide | assumption)).trans ?_; first | assumption | exact x_up_s | (refine (x_up_n (by first | decide | assumption)).trans ?_; first | assumption | exact x_up_s | (refine (x_up_n (by first | decide | assumption)).trans ?_; first | assumption | exact x_up_s | (refine (x_up_n (by first | decide | assumption)).trans ?_; first | assumption | exact x_up_s | (refine (x_up_n (by first | decide | assumption)).trans ?_; first | assumption | exact x_up_s | (refine (x_up_n (by first | decide | assumption)).trans ?_; first | assumption | exact x_up_s)))))))))))))) rfl ?_
    refine x_icmp_ge 46 dX5_missedMany_9 (by decide) (fun hc => absurd hc (nI_ge (by omega) (by omega))) (fun _ => ?_)
    refine x_iload_n (i := 1) dX5_missedMany_12 rfl rfl ?_
    refine x_aload_n (i := 0) dX5_missedMany_13 rfl rfl ?_
    refine x_get flX5_28 dX5_missedMany_14 (by first | decide | assumption) (by first | assumption | exact x_up_s | (refine (x_up_n (by first | decide | assumption)).trans ?_; first | assumption | exact x_up_s | (refine (x_up_n (by first | decide | assumption)).trans ?_; first | assumption | exact x_up_s | (refine (x_up_n (by first | decide | assumption)).trans ?_; first | assumption | exact x_up_s | (refine (x_up_n (by first | decide | assumption)).trans ?_; first | assumption | exact x_up_s | (refine (x_up_n (by first | decide | assumption)).trans ?_; first | assumption | exact x_up_s | (refine (x_up_n (by first | decide | assumption)).trans ?_; first | assumption | exact x_up_s | (refine (x_up_n (by first | decide | assumption)).trans ?_; first | assumption | exact x_up_s | (refine (x_up_n (by first | decide | assumption)).trans ?_; first | assumption | exact x_up_s | (refine (x_up_n (by first | decide | assumption)).trans ?_; first | assumption | exact x_up_s | (refine (x_up_n (by first | decide | assumption)).trans ?_; first | assumption | exact x_up_s | (refine (x_up_n (by first | decide | assumption)).trans ?_; first | assumption | exact x_up_s | (refine (x_up_n (by first | decide | assumption)).trans ?_; first | assumption | exact x_up_s | (refine (x_up_n (by first | decide | assumption)).trans ?_; first | assumption | exact x_up_s)))))))))))))) rfl ?_
    refine x_iload_n (i := 2) dX5_missedMany_17 rfl rfl ?_
    refine x_iald i dX5_missedMany_18 (by first | decide | assumption) (by first | assumption | exact x_up_s | (refine (x_up_n (by first | decide | assumption)).trans ?_; first | assumption | exact x_up_s | (refine (x_up_n (by first | decide | assumption)).trans ?_; first | assumption | exact x_up_s | (refine (x_up_n (by first | decide | assumption)).trans ?_; first | assumption | exact x_up_s | (refine (x_up_n (by first | decide | assumption)).trans ?_; first | assumption | exact x_up_s | (refine (x_up_n (by first | decide | assumption)).trans ?_; first | assumption | exact x_up_s | (refine (x_up_n (by first | decide | assumption)).trans ?_; first | assumption | exact x_up_s | (refine (x_up_n (by first | decide | assumption)).trans ?_; first | assumption | exact x_up_s | (refine (x_up_n (by first | decide | assumption)).trans ?_; first | assumption | exact x_up_s | (refine (x_up_n (by first | decide | assumption)).trans ?_; first | assumption | exact x_up_s | (refine (x_up_n (by first | decide | assumption)).trans ?_; first | assumption | exact x_up_s | (refine (x_up_n (by first | decide | assumption)).trans ?_; first | assumption | exact x_up_s | (refine (x_up_n (by first | decide | assumption)).trans ?_; first | assumption | exact x_up_s | (refine (x_up_n (by first | decide | assumption)).trans ?_; first | assumption | exact x_up_s)))))))))))))) rfl (by omega) (by decide) ?_
    rw [hg]
    refine x_bipush (v := 16) dX5_missedMany_19 (by decide) ?_
    by_cases h16 : dv i < 16
    · refine x_icmp_ge 37 dX5_missedMany_21 (by decide) (fun hc => absurd hc (nI_ge (b := 16) h16 (by decide))) (fun _ => ?_)
      refine x_aload_n (i := 0) dX5_missedMany_24 rfl rfl ?_
      refine x_get flX5_34 dX5_missedMany_25 (by first | decide | assumption) (by first | assumption | exact x_up_s | (refine (x_up_n (by first | decide | assumption)).trans ?_; first | assumption | exact x_up_s | (refine (x_up_n (by first | decide | assumption)).trans ?_; first | assumption | exact x_up_s | (refine (x_up_n (by first | decide | assumption)).trans ?_; first | assumption | exact x_up_s | (refine (x_up_n (by first | decide | assumption)).trans ?_; first | assumption | exact x_up_s | (refine (x_up_n (by first | decide | assumption)).trans ?_; first | assumption | exact x_up_s | (refine (x_up_n (by first | decide | assumption)).trans ?_; first | assumption | exact x_up_s | (refine (x_up_n (by first | decide | assumption)).trans ?_; first | assumption | exact x_up_s | (refine (x_up_n (by first | decide | assumption)).trans ?_; first | assumption | exact x_up_s | (refine (x_up_n (by first | decide | assumption)).trans ?_; first | assumption | exact x_up_s | (refine (x_up_n (by first | decide | assumption)).trans ?_; first | assumption | exact x_up_s | (refine (x_up_n (by first | decide | assumption)).trans ?_; first | assumption | exact x_up_s | (refine (x_up_n (by first | decide | assumption)).trans ?_; first | assumption | exact x_up_s | (refine (x_up_n (by first | decide | assumption)).trans ?_; first | assumption | exact x_up_s)))))))))))))) rfl ?_
      refine x_iload_n (i := 2) dX5_missedMany_28 rfl rfl ?_
      refine x_zald i dX5_missedMany_29 (by first | decide | assumption) (by first | assumption | exact x_up_s | (refine (x_up_n (by first | decide | assumption)).trans ?_; first | assumption | exact x_up_s | (refine (x_up_n (by first | decide | assumption)).trans ?_; first | assumption | exact x_up_s | (refine (x_up_n (by first | decide | assumption)).trans ?_; first | assumption | exact x_up_s | (refine (x_up_n (by first | decide | assumption)).trans ?_; first | assumption | exact x_up_s | (refine (x_up_n (by first | decide | assumption)).trans ?_; first | assumption | exact x_up_s | (refine (x_up_n (by first | decide | assumption)).trans ?_; first | assumption | exact x_up_s | (refine (x_up_n (by first | decide | assumption)).trans ?_; first | assumption | exact x_up_s | (refine (x_up_n (by first | decide | assumption)).trans ?_; first | assumption | exact x_up_s | (refine (x_up_n (by first | decide | assumption)).trans ?_; first | assumption | exact x_up_s | (refine (x_up_n (by first | decide | assumption)).trans ?_; first | assumption | exact x_up_s | (refine (x_up_n (by first | decide | assumption)).trans ?_; first | assumption | exact x_up_s | (refine (x_up_n (by first | decide | assumption)).trans ?_; first | assumption | exact x_up_s | (refine (x_up_n (by first | decide | assumption)).trans ?_; first | assumption | exact x_up_s)))))))))))))) rfl (by omega) (by decide) ?_
      by_cases hz : Z i = 0
      · have hm : msP dv Z i = true := by unfold msP; rw [decide_eq_true h16, decide_eq_true hz]; rfl
        rw [hm, if_pos rfl] at hq
        refine x_if_ne 37 dX5_missedMany_30 (by decide) (fun hc => absurd (by rw [hz]; rfl) hc) (fun _ => ?_)
        refine x_iconst (v := 1) dX5_missedMany_33 (by decide) ?_
        refine x_goto 38 dX5_missedMany_34 (by decide) ?_
        refine x_iadd dX5_missedMany_38 ?_
        refine x_topi (nI_1 a) ?_
        refine x_istore_n (i := 1) dX5_missedMany_39 rfl (by decide) ?_
        first | refine x_incN dX5_missedMany_40 rfl (by decide) ?_ | refine x_iinc dX5_missedMany_40 rfl rfl (by decide) ?_
        refine x_goto 4 dX5_missedMany_43 (by decide) ?_
        exact x_wk (ih (i + 1) (a + 1) (by omega) (by rw [Nat.add_assoc]; exact hq)) ⟨rfl, rfl, rfl, trivial⟩
      · refine x_if_ne 37 dX5_missedMany_30 (by decide) (fun _ => ?_) (fun hc => absurd hc (nI_ne0 (by omega) (by omega)))
        exact x_wk (no (by unfold msP; rw [decide_eq_false hz, Bool.and_false])) ⟨rfl, rfl, rfl, trivial⟩
    · refine x_icmp_ge 37 dX5_missedMany_21 (by decide) (fun _ => ?_) (fun hc => absurd (nI_le (a := 16) (by omega) (by omega)) hc)
      exact x_wk (no (by unfold msP; rw [decide_eq_false h16, Bool.false_and])) ⟨rfl, rfl, rfl, trivial⟩
set_option maxRecDepth 100000 in
set_option maxHeartbeats 4000000 in
theorem cM_missedMany (d : Nat) (h : x_H) {sz ru si pm my pl lw bp bi nw ka iw : Int32} {e : Nat} (hM : h 30 = x_md sz ru si pm my pl lw (nI e) bp bi nw ka iw) {g : Nat → Int32} {dv Z : Nat → Nat} (hY : h 37 = x_ia 41 g) (hZ : h 39 = x_za 41 Z) (hZ1 : ∀ j, Z j ≤ 1) (he : e ≤ 41) (hy : okY e g dv) : x_Ct d mX5_missedMany [.ref 30] h (fun r h' => r = some (.int (nI (cntF (msP dv Z) e 0))) ∧ h' = h) := by
  refine x_enter pnX5_missedMany (Nat.le_of_ble_eq_true rfl) ?_
  refine x_iconst (v := 0) dX5_missedMany_0 (by decide) ?_
  refine x_istore_n (i := 1) dX5_missedMany_1 rfl (by decide) ?_
  refine x_iconst (v := 0) dX5_missedMany_2 (by decide) ?_
  refine x_istore_n (i := 2) dX5_missedMany_3 rfl (by decide) ?_
  exact x_wk (cM_missed_loop d h hM hY hZ hZ1 he hy _ e 0 0 (by omega) ⟨by rw [Nat.zero_add], rfl⟩) ⟨rfl, rfl, rfl, trivial⟩
/-- a look of one of a set -/
def ofP (m : Nat) (v : Nat) : Bool := decide (16 ≤ v) && m.testBit (v - 16)
set_option maxRecDepth 100000 in
set_option maxHeartbeats 4000000 in
theorem cM_isOf (d : Nat) (h : x_H) (v m : Nat) (hv : v < 24) (hm : m < 2 ^ 31) : x_Ct d mX5_isOf [.ref 30, .int (nI v), .int (nI m)] h (fun r h' => r = some (.int (b2I (ofP m v))) ∧ h' = h) := by
  refine x_enter pnX5_isOf (Nat.le_of_ble_eq_true rfl) ?_
  refine x_iload_n (i := 1) dX5_isOf_0 rfl rfl ?_
  refine x_bipush (v := 16) dX5_isOf_1 (by decide) ?_
  by_cases h16 : 16 ≤ v
  · refine x_icmp_lt 22 dX5_isOf_3 (by decide) (fun hc => absurd hc (fun q => absurd ((nI_ltI (b := 16) (by omega) (by decide)).mp q) (by omega))) (fun _ => ?_)
    refine x_iload_n (i := 2) dX5_isOf_6 rfl rfl ?_
    refine x_iload_n (i := 1) dX5_isOf_7 rfl rfl ?_
    refine x_bipush (v := 16) dX5_isOf_8 (by decide) ?_
    refine x_isub dX5_isOf_10 ?_
    refine x_topi (pk_sub (b := 16) h16) ?_
    refine x_ishr dX5_isOf_11 ?_
    refine x_iconst (v := 1) dX5_isOf_12 (by decide) ?_
    refine x_iand dX5_isOf_13 ?_
    refine x_topi (n_shr_s hm (by omega)) ?_
    refine x_iconst (v := 1) dX5_isOf_14 (by decide) ?_
    have hof : ofP m v = m.testBit (v - 16) := by unfold ofP; rw [decide_eq_true h16, Bool.true_and]
    rw [hof]
    cases m.testBit (v - 16) with
    | true =>
      refine x_icmp_ne 22 dX5_isOf_15 (by decide) (fun hc => absurd (rfl) hc) (fun _ => ?_)
      refine x_iconst (v := 1) dX5_isOf_18 (by decide) ?_
      refine x_goto 23 dX5_isOf_19 (by decide) ?_
      refine x_zret dX5_isOf_23 rfl (by first | rfl | decide | assumption) ⟨rfl, rfl⟩
    | false =>
      refine x_icmp_ne 22 dX5_isOf_15 (by decide) (fun _ => ?_) (fun hc => absurd hc (by decide))
      refine x_iconst (v := 0) dX5_isOf_22 (by decide) ?_
      refine x_zret dX5_isOf_23 rfl (by first | rfl | decide | assumption) ⟨rfl, rfl⟩
  · have hof : ofP m v = false := by unfold ofP; rw [decide_eq_false h16, Bool.false_and]
    rw [hof]
    refine x_icmp_lt 22 dX5_isOf_3 (by decide) (fun _ => ?_) (fun hc => absurd (nI_lt (b := 16) (by omega) (by decide)) hc)
    refine x_iconst (v := 0) dX5_isOf_22 (by decide) ?_
    refine x_zret dX5_isOf_23 rfl (by first | rfl | decide | assumption) ⟨rfl, rfl⟩
set_option maxRecDepth 100000 in
set_option maxHeartbeats 4000000 in
theorem cM_looksOf_loop (d : Nat) (h : x_H) {sz ru si pm my pl lw bp bi nw ka iw : Int32} {e : Nat} (hM : h 30 = x_md sz ru si pm my pl lw (nI e) bp bi nw ka iw) {g : Nat → Int32} {dv : Nat → Nat} (hY : h 37 = x_ia 41 g) (he : e ≤ 41) (hy : okY e g dv) (m : Nat) (hm : m < 2 ^ 31) (Q : Option Value → x_H → Prop) :
    ∀ (f i a : Nat), i + f = e → Q (some (.int (nI (a + cntF (fun i => ofP m (dv i)) f i)))) h → x_V (d + 1) mX5_looksOf 4 (x_ls [some (.ref 30), some (.int (nI m)), some (.int (nI a)), some (.int (nI i))]) [] h Q := by
  intro f
  induction f with
  | zero =>
    intro i a hi hq
    refine x_iload_n (i := 3) dX5_looksOf_4 rfl rfl ?_
    refine x_aload_n (i := 0) dX5_looksOf_5 rfl rfl ?_
    refine x_get flX5_110 dX5_looksOf_6 (by first | decide | assumption) (by first | assumption | exact x_up_s | (refine (x_up_n (by first | decide | assumption)).trans ?_; first | assumption | exact x_up_s | (refine (x_up_n (by first | decide | assumption)).trans ?_; first | assumption | exact x_up_s | (refine (x_up_n (by first | decide | assumption)).trans ?_; first | assumption | exact x_up_s | (refine (x_up_n (by first | decide | assumption)).trans ?_; first | assumption | exact x_up_s | (refine (x_up_n (by first | decide | assumption)).trans ?_; first | assumption | exact x_up_s | (refine (x_up_n (by first | decide | assumption)).trans ?_; first | assumption | exact x_up_s | (refine (x_up_n (by first | decide | assumption)).trans ?_; first | assumption | exact x_up_s | (refine (x_up_n (by first | decide | assumption)).trans ?_; first | assumption | exact x_up_s | (refine (x_up_n (by first | decide | assumption)).trans ?_; first | assumption | exact x_up_s | (refine (x_up_n (by first | decide | assumption)).trans ?_; first | assumption | exact x_up_s | (refine (x_up_n (by first | decide | assumption)).trans ?_; first | assumption | exact x_up_s | (refine (x_up_n (by first | decide | assumption)).trans ?_; first | assumption | exact x_up_s | (refine (x_up_n (by first | decide | assumption)).trans ?_; first | assumption | exact x_up_s)))))))))))))) rfl ?_
    refine x_icmp_ge 40 dX5_looksOf_9 (by decide) (fun _ => ?_) (fun hc => absurd (nI_le (by omega) (by omega)) hc)
    refine x_iload_n (i := 2) dX5_looksOf_40 rfl rfl ?_
    refine x_iret dX5_looksOf_41 rfl hq
  | succ f ih =>
    intro i a hi hq
    obtain ⟨hg, hdv⟩ := hy i (by omega)
    unfold cntF at hq
    refine x_iload_n (i := 3) dX5_looksOf_4 rfl rfl ?_
    refine x_aload_n (i := 0) dX5_looksOf_5 rfl rfl ?_
    refine x_get flX5_110 dX5_looksOf_6 (by first | decide | assumption) (by first | assumption | exact x_up_s | (refine (x_up_n (by first | decide | assumption)).trans ?_; first | assumption | exact x_up_s | (refine (x_up_n (by first | decide | assumption)).trans ?_; first | assumption | exact x_up_s | (refine (x_up_n (by first | decide | assumption)).trans ?_; first | assumption | exact x_up_s | (refine (x_up_n (by first | decide | assumption)).trans ?_; first | assumption | exact x_up_s | (refine (x_up_n (by first | decide | assumption)).trans ?_; first | assumption | exact x_up_s | (refine (x_up_n (by first | decide | assumption)).trans ?_; first | assumption | exact x_up_s | (refine (x_up_n (by first | decide | assumption)).trans ?_; first | assumption | exact x_up_s | (refine (x_up_n (by first | decide | assumption)).trans ?_; first | assumption | exact x_up_s | (refine (x_up_n (by first | decide | assumption)).trans ?_; first | assumption | exact x_up_s | (refine (x_up_n (by first | decide | assumption)).trans ?_; first | assumption | exact x_up_s | (refine (x_up_n (by first | decide | assumption)).trans ?_; first | assumption | exact x_up_s | (refine (x_up_n (by first | decide | assumption)).trans ?_; first | assumption | exact x_up_s | (refine (x_up_n (by first | decide | assumption)).trans ?_; first | assumption | exact x_up_s)))))))))))))) rfl ?_
    refine x_icmp_ge 40 dX5_looksOf_9 (by decide) (fun hc => absurd hc (nI_ge (by omega) (by omega))) (fun _ => ?_)
    refine x_iload_n (i := 2) dX5_looksOf_12 rfl rfl ?_
    refine x_aload_n (i := 0) dX5_looksOf_13 rfl rfl ?_
    refine x_aload_n (i := 0) dX5_looksOf_14 rfl rfl ?_
    refine x_get flX5_28 dX5_looksOf_15 (by first | decide | assumption) (by first | assumption | exact x_up_s | (refine (x_up_n (by first | decide | assumption)).trans ?_; first | assumption | exact x_up_s | (refine (x_up_n (by first | decide | assumption)).trans ?_; first | assumption | exact x_up_s | (refine (x_up_n (by first | decide | assumption)).trans ?_; first | assumption | exact x_up_s | (refine (x_up_n (by first | decide | assumption)).trans ?_; first | assumption | exact x_up_s | (refine (x_up_n (by first | decide | assumption)).trans ?_; first | assumption | exact x_up_s | (refine (x_up_n (by first | decide | assumption)).trans ?_; first | assumption | exact x_up_s | (refine (x_up_n (by first | decide | assumption)).trans ?_; first | assumption | exact x_up_s | (refine (x_up_n (by first | decide | assumption)).trans ?_; first | assumption | exact x_up_s | (refine (x_up_n (by first | decide | assumption)).trans ?_; first | assumption | exact x_up_s | (refine (x_up_n (by first | decide | assumption)).trans ?_; first | assumption | exact x_up_s | (refine (x_up_n (by first | decide | assumption)).trans ?_; first | assumption | exact x_up_s | (refine (x_up_n (by first | decide | assumption)).trans ?_; first | assumption | exact x_up_s | (refine (x_up_n (by first | decide | assumption)).trans ?_; first | assumption | exact x_up_s)))))))))))))) rfl ?_
    refine x_iload_n (i := 3) dX5_looksOf_18 rfl rfl ?_
    refine x_iald i dX5_looksOf_19 (by first | decide | assumption) (by first | assumption | exact x_up_s | (refine (x_up_n (by first | decide | assumption)).trans ?_; first | assumption | exact x_up_s | (refine (x_up_n (by first | decide | assumption)).trans ?_; first | assumption | exact x_up_s | (refine (x_up_n (by first | decide | assumption)).trans ?_; first | assumption | exact x_up_s | (refine (x_up_n (by first | decide | assumption)).trans ?_; first | assumption | exact x_up_s | (refine (x_up_n (by first | decide | assumption)).trans ?_; first | assumption | exact x_up_s | (refine (x_up_n (by first | decide | assumption)).trans ?_; first | assumption | exact x_up_s | (refine (x_up_n (by first | decide | assumption)).trans ?_; first | assumption | exact x_up_s | (refine (x_up_n (by first | decide | assumption)).trans ?_; first | assumption | exact x_up_s | (refine (x_up_n (by first | decide | assumption)).trans ?_; first | assumption | exact x_up_s | (refine (x_up_n (by first | decide | assumption)).trans ?_; first | assumption | exact x_up_s | (refine (x_up_n (by first | decide | assumption)).trans ?_; first | assumption | exact x_up_s | (refine (x_up_n (by first | decide | assumption)).trans ?_; first | assumption | exact x_up_s | (refine (x_up_n (by first | decide | assumption)).trans ?_; first | assumption | exact x_up_s)))))))))))))) rfl (by omega) (by decide) ?_
    rw [hg]
    refine x_iload_n (i := 1) dX5_looksOf_20 rfl rfl ?_
    refine x_invV clX5_148 dX5_looksOf_21 (cM_isOf d h (dv i) m (by omega) hm) (by omega) rfl (by first | decide | assumption) (by first | assumption | exact x_up_s | (refine (x_up_n (by first | decide | assumption)).trans ?_; first | assumption | exact x_up_s | (refine (x_up_n (by first | decide | assumption)).trans ?_; first | assumption | exact x_up_s | (refine (x_up_n (by first | decide | assumption)).trans ?_; first | assumption | exact x_up_s | (refine (x_up_n (by first | decide | assumption)).trans ?_; first | assumption | exact x_up_s | (refine (x_up_n (by first | decide | assumption)).trans ?_; first | assumption | exact x_up_s | (refine (x_up_n (by first | decide | assumption)).trans ?_; first | assumption | exact x_up_s | (refine (x_up_n (by first | decide | assumption)).trans ?_; first | assumption | exact x_up_s | (refine (x_up_n (by first | decide | assumption)).trans ?_; first | assumption | exact x_up_s | (refine (x_up_n (by first | decide | assumption)).trans ?_; first | assumption | exact x_up_s | (refine (x_up_n (by first | decide | assumption)).trans ?_; first | assumption | exact x_up_s | (refine (x_up_n (by first | decide | assumption)).trans ?_; first | assumption | exact x_up_s | (refine (x_up_n (by first | decide | assumption)).trans ?_; first | assumption | exact x_up_s | (refine (x_up_n (by first | decide | assumption)).trans ?_; first | assumption | exact x_up_s)))))))))))))) rfl (Nat.le_of_ble_eq_true rfl) ?_
    rintro r h' ⟨rfl, rfl⟩
    cases hb : ofP m (dv i) with
    | true =>
      rw [hb, if_pos rfl] at hq
      refine x_if_eq 31 dX5_looksOf_24 (by decide) (fun hc => absurd hc (by decide)) (fun _ => ?_)
      refine x_iconst (v := 1) dX5_looksOf_27 (by decide) ?_
      refine x_goto 32 dX5_looksOf_28 (by decide) ?_
      refine x_iadd dX5_looksOf_32 ?_
      refine x_topi (nI_1 a) ?_
      refine x_istore_n (i := 2) dX5_looksOf_33 rfl (by decide) ?_
      first | refine x_incN dX5_looksOf_34 rfl (by decide) ?_ | refine x_iinc dX5_looksOf_34 rfl rfl (by decide) ?_
      refine x_goto 4 dX5_looksOf_37 (by decide) ?_
      exact x_wk (ih (i + 1) (a + 1) (by omega) (by rw [Nat.add_assoc]; exact hq)) ⟨rfl, rfl, rfl, rfl, trivial⟩
    | false =>
      rw [hb, if_neg (by decide), Nat.zero_add] at hq
      refine x_if_eq 31 dX5_looksOf_24 (by decide) (fun _ => ?_) (fun hc => absurd (rfl) hc)
      refine x_iconst (v := 0) dX5_looksOf_31 (by decide) ?_
      refine x_iadd dX5_looksOf_32 ?_
      refine x_topi (y := nI a) (by show nI a + nI 0 = nI a; rw [nI_add]; rfl) ?_
      refine x_istore_n (i := 2) dX5_looksOf_33 rfl (by decide) ?_
      first | refine x_incN dX5_looksOf_34 rfl (by decide) ?_ | refine x_iinc dX5_looksOf_34 rfl rfl (by decide) ?_
      refine x_goto 4 dX5_looksOf_37 (by decide) ?_
      exact x_wk (ih (i + 1) a (by omega) hq) ⟨rfl, rfl, rfl, rfl, trivial⟩
set_option maxRecDepth 100000 in
set_option maxHeartbeats 4000000 in
theorem cM_looksOf (d : Nat) (h : x_H) {sz ru si pm my pl lw bp bi nw ka iw : Int32} {e : Nat} (hM : h 30 = x_md sz ru si pm my pl lw (nI e) bp bi nw ka iw) {g : Nat → Int32} {dv : Nat → Nat} (hY : h 37 = x_ia 41 g) (he : e ≤ 41) (hy : okY e g dv) (m : Nat) (hm : m < 2 ^ 31) : x_Ct (d + 1) mX5_looksOf [.ref 30, .int (nI m)] h (fun r h' => r = some (.int (nI (cntF (fun i => ofP m (dv i)) e 0))) ∧ h' = h) := by
  refine x_enter pnX5_looksOf (Nat.le_of_ble_eq_true rfl) ?_
  refine x_iconst (v := 0) dX5_looksOf_0 (by decide) ?_
  refine x_istore_n (i := 2) dX5_looksOf_1 rfl (by decide) ?_
  refine x_iconst (v := 0) dX5_looksOf_2 (by decide) ?_
  refine x_istore_n (i := 3) dX5_looksOf_3 rfl (by decide) ?_
  exact x_wk (cM_looksOf_loop d h hM hY he hy m hm _ e 0 0 (by omega) ⟨by rw [Nat.zero_add], rfl⟩) ⟨rfl, rfl, rfl, rfl, trivial⟩
/-- the writing of an event still stands there -/
def stB (e : Nat) (b : Bd) : Bool := b.any (fun q => q.2 == e)
set_option maxRecDepth 100000 in
set_option maxHeartbeats 4000000 in
theorem cM_still_loop (d : Nat) (h : x_H) {sz ru si pm pl lw ev bp bi nw ka iw : Int32} {m : Nat} (nf : Nat → Nat) {wf : Nat → Nat} (hM : h 30 = x_md sz ru si pm (nI m) pl lw ev bp bi nw ka iw) (hW : h 36 = x_na 11 wf) (hm : m ≤ 11) (hwf : ∀ j, wf j < 2 ^ 31) (e : Nat) (he : e < 2 ^ 31) (Q : Option Value → x_H → Prop) :
    ∀ (f k : Nat) (s : Bool), k + f = m → Q (some (.int (b2I (s || stB e ((lst m nf wf).drop k))))) h → x_V d mX5_stillStands 4 (x_ls [some (.ref 30), some (.int (nI e)), some (.int (b2I s)), some (.int (nI k))]) [] h Q := by
  intro f
  induction f with
  | zero =>
    intro k s hk hq
    rw [List.drop_eq_nil_of_le (by rw [lst_len]; omega)] at hq
    have : stB e [] = false := rfl
    rw [this, Bool.or_false] at hq
    refine x_iload_n (i := 3) dX5_stillStands_4 rfl rfl ?_
    refine x_aload_n (i := 0) dX5_stillStands_5 rfl rfl ?_
    refine x_get flX5_94 dX5_stillStands_6 (by first | decide | assumption) (by first | assumption | exact x_up_s | (refine (x_up_n (by first | decide | assumption)).trans ?_; first | assumption | exact x_up_s | (refine (x_up_n (by first | decide | assumption)).trans ?_; first | assumption | exact x_up_s | (refine (x_up_n (by first | decide | assumption)).trans ?_; first | assumption | exact x_up_s | (refine (x_up_n (by first | decide | assumption)).trans ?_; first | assumption | exact x_up_s | (refine (x_up_n (by first | decide | assumption)).trans ?_; first | assumption | exact x_up_s | (refine (x_up_n (by first | decide | assumption)).trans ?_; first | assumption | exact x_up_s | (refine (x_up_n (by first | decide | assumption)).trans ?_; first | assumption | exact x_up_s | (refine (x_up_n (by first | decide | assumption)).trans ?_; first | assumption | exact x_up_s | (refine (x_up_n (by first | decide | assumption)).trans ?_; first | assumption | exact x_up_s | (refine (x_up_n (by first | decide | assumption)).trans ?_; first | assumption | exact x_up_s | (refine (x_up_n (by first | decide | assumption)).trans ?_; first | assumption | exact x_up_s | (refine (x_up_n (by first | decide | assumption)).trans ?_; first | assumption | exact x_up_s | (refine (x_up_n (by first | decide | assumption)).trans ?_; first | assumption | exact x_up_s)))))))))))))) rfl ?_
    refine x_icmp_ge 38 dX5_stillStands_9 (by decide) (fun _ => ?_) (fun hc => absurd (nI_le (by omega) (by omega)) hc)
    refine x_iload_n (i := 2) dX5_stillStands_38 rfl rfl ?_
    cases s with
    | true =>
      refine x_zret dX5_stillStands_39 rfl (by first | rfl | decide | assumption) hq
    | false =>
      refine x_zret dX5_stillStands_39 rfl (by first | rfl | decide | assumption) hq
  | succ f ih =>
    intro k s hk hq
    rw [lst_drop (by omega)] at hq
    have hst : stB e ((nf k, wf k) :: (lst m nf wf).drop (k + 1)) = ((wf k == e) || stB e ((lst m nf wf).drop (k + 1))) := rfl
    rw [hst, ← Bool.or_assoc] at hq
    have go1 : (s || (wf k == e)) = true → x_V d mX5_stillStands 26 (x_ls [some (.ref 30), some (.int (nI e)), some (.int (b2I s)), some (.int (nI k))]) [] h Q := by
      intro hs
      rw [hs] at hq
      refine x_iconst (v := 1) dX5_stillStands_26 (by decide) ?_
      refine x_goto 31 dX5_stillStands_27 (by decide) ?_
      refine x_istore_n (i := 2) dX5_stillStands_31 rfl (by decide) ?_
      first | refine x_incN dX5_stillStands_32 rfl (by decide) ?_ | refine x_iinc dX5_stillStands_32 rfl rfl (by decide) ?_
      refine x_goto 4 dX5_stillStands_35 (by decide) ?_
      exact x_wk (ih (k + 1) true (by omega) hq) ⟨rfl, rfl, rfl, rfl, trivial⟩
    refine x_iload_n (i := 3) dX5_stillStands_4 rfl rfl ?_
    refine x_aload_n (i := 0) dX5_stillStands_5 rfl rfl ?_
    refine x_get flX5_94 dX5_stillStands_6 (by first | decide | assumption) (by first | assumption | exact x_up_s | (refine (x_up_n (by first | decide | assumption)).trans ?_; first | assumption | exact x_up_s | (refine (x_up_n (by first | decide | assumption)).trans ?_; first | assumption | exact x_up_s | (refine (x_up_n (by first | decide | assumption)).trans ?_; first | assumption | exact x_up_s | (refine (x_up_n (by first | decide | assumption)).trans ?_; first | assumption | exact x_up_s | (refine (x_up_n (by first | decide | assumption)).trans ?_; first | assumption | exact x_up_s | (refine (x_up_n (by first | decide | assumption)).trans ?_; first | assumption | exact x_up_s | (refine (x_up_n (by first | decide | assumption)).trans ?_; first | assumption | exact x_up_s | (refine (x_up_n (by first | decide | assumption)).trans ?_; first | assumption | exact x_up_s | (refine (x_up_n (by first | decide | assumption)).trans ?_; first | assumption | exact x_up_s | (refine (x_up_n (by first | decide | assumption)).trans ?_; first | assumption | exact x_up_s | (refine (x_up_n (by first | decide | assumption)).trans ?_; first | assumption | exact x_up_s | (refine (x_up_n (by first | decide | assumption)).trans ?_; first | assumption | exact x_up_s | (refine (x_up_n (by first | decide | assumption)).trans ?_; first | assumption | exact x_up_s)))))))))))))) rfl ?_
    refine x_icmp_ge 38 dX5_stillStands_9 (by decide) (fun hc => absurd hc (nI_ge (by omega) (by omega))) (fun _ => ?_)
    refine x_iload_n (i := 2) dX5_stillStands_12 rfl rfl ?_
    cases s with
    | true =>
      refine x_if_ne 26 dX5_stillStands_13 (by decide) (fun _ => ?_) (fun hc => absurd hc (by decide))
      exact x_wk (go1 rfl) ⟨rfl, rfl, rfl, rfl, trivial⟩
    | false =>
      refine x_if_ne 26 dX5_stillStands_13 (by decide) (fun hc => absurd (rfl) hc) (fun _ => ?_)
      refine x_aload_n (i := 0) dX5_stillStands_16 rfl rfl ?_
      refine x_get flX5_25 dX5_stillStands_17 (by first | decide | assumption) (by first | assumption | exact x_up_s | (refine (x_up_n (by first | decide | assumption)).trans ?_; first | assumption | exact x_up_s | (refine (x_up_n (by first | decide | assumption)).trans ?_; first | assumption | exact x_up_s | (refine (x_up_n (by first | decide | assumption)).trans ?_; first | assumption | exact x_up_s | (refine (x_up_n (by first | decide | assumption)).trans ?_; first | assumption | exact x_up_s | (refine (x_up_n (by first | decide | assumption)).trans ?_; first | assumption | exact x_up_s | (refine (x_up_n (by first | decide | assumption)).trans ?_; first | assumption | exact x_up_s | (refine (x_up_n (by first | decide | assumption)).trans ?_; first | assumption | exact x_up_s | (refine (x_up_n (by first | decide | assumption)).trans ?_; first | assumption | exact x_up_s | (refine (x_up_n (by first | decide | assumption)).trans ?_; first | assumption | exact x_up_s | (refine (x_up_n (by first | decide | assumption)).trans ?_; first | assumption | exact x_up_s | (refine (x_up_n (by first | decide | assumption)).trans ?_; first | assumption | exact x_up_s | (refine (x_up_n (by first | decide | assumption)).trans ?_; first | assumption | exact x_up_s | (refine (x_up_n (by first | decide | assumption)).trans ?_; first | assumption | exact x_up_s)))))))))))))) rfl ?_
      refine x_iload_n (i := 3) dX5_stillStands_20 rfl rfl ?_
      refine x_iald k dX5_stillStands_21 (by first | decide | assumption) (by first | assumption | exact x_up_s | (refine (x_up_n (by first | decide | assumption)).trans ?_; first | assumption | exact x_up_s | (refine (x_up_n (by first | decide | assumption)).trans ?_; first | assumption | exact x_up_s | (refine (x_up_n (by first | decide | assumption)).trans ?_; first | assumption | exact x_up_s | (refine (x_up_n (by first | decide | assumption)).trans ?_; first | assumption | exact x_up_s | (refine (x_up_n (by first | decide | assumption)).trans ?_; first | assumption | exact x_up_s | (refine (x_up_n (by first | decide | assumption)).trans ?_; first | assumption | exact x_up_s | (refine (x_up_n (by first | decide | assumption)).trans ?_; first | assumption | exact x_up_s | (refine (x_up_n (by first | decide | assumption)).trans ?_; first | assumption | exact x_up_s | (refine (x_up_n (by first | decide | assumption)).trans ?_; first | assumption | exact x_up_s | (refine (x_up_n (by first | decide | assumption)).trans ?_; first | assumption | exact x_up_s | (refine (x_up_n (by first | decide | assumption)).trans ?_; first | assumption | exact x_up_s | (refine (x_up_n (by first | decide | assumption)).trans ?_; first | assumption | exact x_up_s | (refine (x_up_n (by first | decide | assumption)).trans ?_; first | assumption | exact x_up_s)))))))))))))) rfl (by omega) (by decide) ?_
      refine x_iload_n (i := 1) dX5_stillStands_22 rfl rfl ?_
      by_cases hw : wf k = e
      · refine x_icmp_ne 30 dX5_stillStands_23 (by decide) (fun hc => absurd (by rw [hw]) hc) (fun _ => ?_)
        exact x_wk (go1 (by rw [hw]; simp)) ⟨rfl, rfl, rfl, rfl, trivial⟩
      · have : (false || (wf k == e)) = false := by rw [Bool.false_or, beq_eq_false_iff_ne]; exact hw
        rw [this] at hq
        refine x_icmp_ne 30 dX5_stillStands_23 (by decide) (fun _ => ?_) (fun hc => absurd hc (fun q => hw (nI_inj (hwf k) he q)))
        refine x_iconst (v := 0) dX5_stillStands_30 (by decide) ?_
        refine x_istore_n (i := 2) dX5_stillStands_31 rfl (by decide) ?_
        first | refine x_incN dX5_stillStands_32 rfl (by decide) ?_ | refine x_iinc dX5_stillStands_32 rfl rfl (by decide) ?_
        refine x_goto 4 dX5_stillStands_35 (by decide) ?_
        exact x_wk (ih (k + 1) false (by omega) hq) ⟨rfl, rfl, rfl, rfl, trivial⟩
set_option maxRecDepth 100000 in
set_option maxHeartbeats 4000000 in
theorem cM_still (d : Nat) (h : x_H) {sz ru si pm pl lw ev bp bi nw ka iw : Int32} {m : Nat} (nf : Nat → Nat) {wf : Nat → Nat} (hM : h 30 = x_md sz ru si pm (nI m) pl lw ev bp bi nw ka iw) (hW : h 36 = x_na 11 wf) (hm : m ≤ 11) (hwf : ∀ j, wf j < 2 ^ 31) (e : Nat) (he : e < 2 ^ 31) : x_Ct d mX5_stillStands [.ref 30, .int (nI e)] h (fun r h' => r = some (.int (b2I (stB e (lst m nf wf)))) ∧ h' = h) := by
  refine x_enter pnX5_stillStands (Nat.le_of_ble_eq_true rfl) ?_
  refine x_iconst (v := 0) dX5_stillStands_0 (by decide) ?_
  refine x_istore_n (i := 2) dX5_stillStands_1 rfl (by decide) ?_
  refine x_iconst (v := 0) dX5_stillStands_2 (by decide) ?_
  refine x_istore_n (i := 3) dX5_stillStands_3 rfl (by decide) ?_
  exact x_wk (cM_still_loop d h nf hM hW hm hwf e he _ m 0 false (by omega) ⟨rfl, rfl⟩) ⟨rfl, rfl, rfl, rfl, trivial⟩
