set_option maxRecDepth 100000 in
set_option maxHeartbeats 4000000 in
theorem cR_clear2 (d : Nat) (h : x_H) {fr wy ak ls : Int32} (hR : h 10 = x_sr fr wy ak ls) (Q : Option Value → x_H → Prop) (Cr : Nat → Nat) (hq : Q none (x_up h 14 (x_na 8 (mixN 8 (fun _ => 0) Cr)))) :
    ∀ (r k : Nat), k + r = 8 → x_V d mX2_clearAnswers 34 (x_ls [some (.ref 10), some (.int (nI k))]) [] (x_up h 14 (x_na 8 (mixN k (fun _ => 0) Cr))) Q := by
  intro r
  induction r with
  | zero =>
    intro k hk
    have : k = 8 := by omega
    subst this
    refine x_iload_n (i := 1) dX2_clearAnswers_34 rfl rfl ?_
    refine x_bipush (v := 8) dX2_clearAnswers_35 (by decide) ?_
    refine x_icmp_ge 53 dX2_clearAnswers_37 (by decide) (fun _ => ?_) (fun hc => absurd (nI_le (a := 8) (by decide) (by decide)) hc)
    refine x_vret dX2_clearAnswers_53 rfl hq
  | succ r ih =>
    intro k hk
    refine x_iload_n (i := 1) dX2_clearAnswers_34 rfl rfl ?_
    refine x_bipush (v := 8) dX2_clearAnswers_35 (by decide) ?_
    refine x_icmp_ge 53 dX2_clearAnswers_37 (by decide) (fun hc => absurd hc (nI_ge (b := 8) (by omega) (by decide))) (fun _ => ?_)
    refine x_aload_n (i := 0) dX2_clearAnswers_40 rfl rfl ?_
    refine x_get flX2_33 dX2_clearAnswers_41 (by first | decide | assumption) (by first | assumption | exact x_up_s | (refine (x_up_n (by first | decide | assumption)).trans ?_; first | assumption | exact x_up_s | (refine (x_up_n (by first | decide | assumption)).trans ?_; first | assumption | exact x_up_s | (refine (x_up_n (by first | decide | assumption)).trans ?_; first | assumption | exact x_up_s | (refine (x_up_n (by first | decide | assumption)).trans ?_; first | assumption | exact x_up_s | (refine (x_up_n (by first | decide | assumption)).trans ?_; first | assumption | exact x_up_s | (refine (x_up_n (by first | decide | assumption)).trans ?_; first | assumption | exact x_up_s | (refine (x_up_n (by first | decide | assumption)).trans ?_; first | assumption | exact x_up_s | (refine (x_up_n (by first | decide | assumption)).trans ?_; first | assumption | exact x_up_s | (refine (x_up_n (by first | decide | assumption)).trans ?_; first | assumption | exact x_up_s | (refine (x_up_n (by first | decide | assumption)).trans ?_; first | assumption | exact x_up_s | (refine (x_up_n (by first | decide | assumption)).trans ?_; first | assumption | exact x_up_s | (refine (x_up_n (by first | decide | assumption)).trans ?_; first | assumption | exact x_up_s | (refine (x_up_n (by first | decide | assumption)).trans ?_; first | assumption | exact x_up_s)))))))))))))) rfl ?_
    refine x_iload_n (i := 1) dX2_clearAnswers_44 rfl rfl ?_
    refine x_iconst (v := 0) dX2_clearAnswers_45 (by decide) ?_
    refine x_iast k dX2_clearAnswers_46 (by first | decide | assumption) (by first | assumption | exact x_up_s | (refine (x_up_n (by first | decide | assumption)).trans ?_; first | assumption | exact x_up_s | (refine (x_up_n (by first | decide | assumption)).trans ?_; first | assumption | exact x_up_s | (refine (x_up_n (by first | decide | assumption)).trans ?_; first | assumption | exact x_up_s | (refine (x_up_n (by first | decide | assumption)).trans ?_; first | assumption | exact x_up_s | (refine (x_up_n (by first | decide | assumption)).trans ?_; first | assumption | exact x_up_s | (refine (x_up_n (by first | decide | assumption)).trans ?_; first | assumption | exact x_up_s | (refine (x_up_n (by first | decide | assumption)).trans ?_; first | assumption | exact x_up_s | (refine (x_up_n (by first | decide | assumption)).trans ?_; first | assumption | exact x_up_s | (refine (x_up_n (by first | decide | assumption)).trans ?_; first | assumption | exact x_up_s | (refine (x_up_n (by first | decide | assumption)).trans ?_; first | assumption | exact x_up_s | (refine (x_up_n (by first | decide | assumption)).trans ?_; first | assumption | exact x_up_s | (refine (x_up_n (by first | decide | assumption)).trans ?_; first | assumption | exact x_up_s | (refine (x_up_n (by first | decide | assumption)).trans ?_; first | assumption | exact x_up_s)))))))))))))) rfl (by omega) (by decide) ?_
    rw [upd_0, zer_s, x_up_up]
    first | refine x_incN dX2_clearAnswers_47 rfl (by decide) ?_ | refine x_iinc dX2_clearAnswers_47 rfl rfl (by decide) ?_
    refine x_goto 34 dX2_clearAnswers_50 (by decide) ?_
    exact x_wk (ih (k + 1) (by omega)) ⟨rfl, rfl, trivial⟩
set_option maxRecDepth 100000 in
set_option maxHeartbeats 4000000 in
theorem cR_clear1 (d : Nat) (h : x_H) {fr wy ak ls : Int32} (hR : h 10 = x_sr fr wy ak ls) (Q : Option Value → x_H → Prop) (Fi Ca : Nat → Nat) (K : x_V d mX2_clearAnswers 32 (x_ls [some (.ref 10)]) [] (x_up (x_up h 12 (x_na 4 (mixN 4 (fun _ => 0) Fi))) 13 (x_na 4 (mixN 4 (fun _ => 0) Ca))) Q) :
    ∀ (r k : Nat), k + r = 4 → x_V d mX2_clearAnswers 7 (x_ls [some (.ref 10), some (.int (nI k))]) [] (x_up (x_up h 12 (x_na 4 (mixN k (fun _ => 0) Fi))) 13 (x_na 4 (mixN k (fun _ => 0) Ca))) Q := by
  intro r
  induction r with
  | zero =>
    intro k hk
    have : k = 4 := by omega
    subst this
    refine x_iload_n (i := 1) dX2_clearAnswers_7 rfl rfl ?_
    refine x_iconst (v := 4) dX2_clearAnswers_8 (by decide) ?_
    refine x_icmp_ge 32 dX2_clearAnswers_9 (by decide) (fun _ => ?_) (fun hc => absurd (nI_le (a := 4) (by decide) (by decide)) hc)
    exact x_wk K ⟨rfl, trivial⟩
  | succ r ih =>
    intro k hk
    refine x_iload_n (i := 1) dX2_clearAnswers_7 rfl rfl ?_
    refine x_iconst (v := 4) dX2_clearAnswers_8 (by decide) ?_
    refine x_icmp_ge 32 dX2_clearAnswers_9 (by decide) (fun hc => absurd hc (nI_ge (b := 4) (by omega) (by decide))) (fun _ => ?_)
    refine x_aload_n (i := 0) dX2_clearAnswers_12 rfl rfl ?_
    refine x_get flX2_26 dX2_clearAnswers_13 (by first | decide | assumption) (by first | assumption | exact x_up_s | (refine (x_up_n (by first | decide | assumption)).trans ?_; first | assumption | exact x_up_s | (refine (x_up_n (by first | decide | assumption)).trans ?_; first | assumption | exact x_up_s | (refine (x_up_n (by first | decide | assumption)).trans ?_; first | assumption | exact x_up_s | (refine (x_up_n (by first | decide | assumption)).trans ?_; first | assumption | exact x_up_s | (refine (x_up_n (by first | decide | assumption)).trans ?_; first | assumption | exact x_up_s | (refine (x_up_n (by first | decide | assumption)).trans ?_; first | assumption | exact x_up_s | (refine (x_up_n (by first | decide | assumption)).trans ?_; first | assumption | exact x_up_s | (refine (x_up_n (by first | decide | assumption)).trans ?_; first | assumption | exact x_up_s | (refine (x_up_n (by first | decide | assumption)).trans ?_; first | assumption | exact x_up_s | (refine (x_up_n (by first | decide | assumption)).trans ?_; first | assumption | exact x_up_s | (refine (x_up_n (by first | decide | assumption)).trans ?_; first | assumption | exact x_up_s | (refine (x_up_n (by first | decide | assumption)).trans ?_; first | assumption | exact x_up_s | (refine (x_up_n (by first | decide | assumption)).trans ?_; first | assumption | exact x_up_s)))))))))))))) rfl ?_
    refine x_iload_n (i := 1) dX2_clearAnswers_16 rfl rfl ?_
    refine x_iconst (v := 0) dX2_clearAnswers_17 (by decide) ?_
    refine x_iast k dX2_clearAnswers_18 (by first | decide | assumption) (by first | assumption | exact x_up_s | (refine (x_up_n (by first | decide | assumption)).trans ?_; first | assumption | exact x_up_s | (refine (x_up_n (by first | decide | assumption)).trans ?_; first | assumption | exact x_up_s | (refine (x_up_n (by first | decide | assumption)).trans ?_; first | assumption | exact x_up_s | (refine (x_up_n (by first | decide | assumption)).trans ?_; first | assumption | exact x_up_s | (refine (x_up_n (by first | decide | assumption)).trans ?_; first | assumption | exact x_up_s | (refine (x_up_n (by first | decide | assumption)).trans ?_; first | assumption | exact x_up_s | (refine (x_up_n (by first | decide | assumption)).trans ?_; first | assumption | exact x_up_s | (refine (x_up_n (by first | decide | assumption)).trans ?_; first | assumption | exact x_up_s | (refine (x_up_n (by first | decide | assumption)).trans ?_; first | assumption | exact x_up_s | (refine (x_up_n (by first | decide | assumption)).trans ?_; first | assumption | exact x_up_s | (refine (x_up_n (by first | decide | assumption)).trans ?_; first | assumption | exact x_up_s | (refine (x_up_n (by first | decide | assumption)).trans ?_; first | assumption | exact x_up_s | (refine (x_up_n (by first | decide | assumption)).trans ?_; first | assumption | exact x_up_s)))))))))))))) rfl (by omega) (by decide) ?_
    rw [upd_0, zer_s]
    refine x_aload_n (i := 0) dX2_clearAnswers_19 rfl rfl ?_
    refine x_get flX2_30 dX2_clearAnswers_20 (by first | decide | assumption) (by first | assumption | exact x_up_s | (refine (x_up_n (by first | decide | assumption)).trans ?_; first | assumption | exact x_up_s | (refine (x_up_n (by first | decide | assumption)).trans ?_; first | assumption | exact x_up_s | (refine (x_up_n (by first | decide | assumption)).trans ?_; first | assumption | exact x_up_s | (refine (x_up_n (by first | decide | assumption)).trans ?_; first | assumption | exact x_up_s | (refine (x_up_n (by first | decide | assumption)).trans ?_; first | assumption | exact x_up_s | (refine (x_up_n (by first | decide | assumption)).trans ?_; first | assumption | exact x_up_s | (refine (x_up_n (by first | decide | assumption)).trans ?_; first | assumption | exact x_up_s | (refine (x_up_n (by first | decide | assumption)).trans ?_; first | assumption | exact x_up_s | (refine (x_up_n (by first | decide | assumption)).trans ?_; first | assumption | exact x_up_s | (refine (x_up_n (by first | decide | assumption)).trans ?_; first | assumption | exact x_up_s | (refine (x_up_n (by first | decide | assumption)).trans ?_; first | assumption | exact x_up_s | (refine (x_up_n (by first | decide | assumption)).trans ?_; first | assumption | exact x_up_s | (refine (x_up_n (by first | decide | assumption)).trans ?_; first | assumption | exact x_up_s)))))))))))))) rfl ?_
    refine x_iload_n (i := 1) dX2_clearAnswers_23 rfl rfl ?_
    refine x_iconst (v := 0) dX2_clearAnswers_24 (by decide) ?_
    refine x_iast k dX2_clearAnswers_25 (by first | decide | assumption) (by first | assumption | exact x_up_s | (refine (x_up_n (by first | decide | assumption)).trans ?_; first | assumption | exact x_up_s | (refine (x_up_n (by first | decide | assumption)).trans ?_; first | assumption | exact x_up_s | (refine (x_up_n (by first | decide | assumption)).trans ?_; first | assumption | exact x_up_s | (refine (x_up_n (by first | decide | assumption)).trans ?_; first | assumption | exact x_up_s | (refine (x_up_n (by first | decide | assumption)).trans ?_; first | assumption | exact x_up_s | (refine (x_up_n (by first | decide | assumption)).trans ?_; first | assumption | exact x_up_s | (refine (x_up_n (by first | decide | assumption)).trans ?_; first | assumption | exact x_up_s | (refine (x_up_n (by first | decide | assumption)).trans ?_; first | assumption | exact x_up_s | (refine (x_up_n (by first | decide | assumption)).trans ?_; first | assumption | exact x_up_s | (refine (x_up_n (by first | decide | assumption)).trans ?_; first | assumption | exact x_up_s | (refine (x_up_n (by first | decide | assumption)).trans ?_; first | assumption | exact x_up_s | (refine (x_up_n (by first | decide | assumption)).trans ?_; first | assumption | exact x_up_s | (refine (x_up_n (by first | decide | assumption)).trans ?_; first | assumption | exact x_up_s)))))))))))))) rfl (by omega) (by decide) ?_
    rw [upd_0, zer_s]
    first | refine x_incN dX2_clearAnswers_26 rfl (by decide) ?_ | refine x_iinc dX2_clearAnswers_26 rfl rfl (by decide) ?_
    refine x_goto 7 dX2_clearAnswers_29 (by decide) ?_
    refine x_hp (h' := x_up (x_up h 12 (x_na 4 (mixN (k + 1) (fun _ => 0) Fi))) 13 (x_na 4 (mixN (k + 1) (fun _ => 0) Ca))) (by funext j9; simp only [x_up]; (repeat' split) <;> first | rfl | omega | simp_all) ?_
    exact x_wk (ih (k + 1) (by omega)) ⟨rfl, rfl, trivial⟩
set_option maxRecDepth 100000 in
set_option maxHeartbeats 4000000 in
theorem cR_clear (d : Nat) (h : x_H) {fr wy ak ls : Int32} {Fi Ca Cr : Nat → Nat} (hR : h 10 = x_sr fr wy ak ls) (h2 : h 12 = x_na 4 Fi) (h3 : h 13 = x_na 4 Ca) (h4 : h 14 = x_na 8 Cr) :
    x_Ct d mX2_clearAnswers [.ref 10] h (fun r h' => r = none ∧ h' = x_up (x_up (x_up (x_up h 10 (x_sr fr 0 ak ls)) 12 (x_na 4 (mixN 4 (fun _ => 0) Fi))) 13 (x_na 4 (mixN 4 (fun _ => 0) Ca))) 14 (x_na 8 (mixN 8 (fun _ => 0) Cr))) := by
  refine x_enter pnX2_clearAnswers (Nat.le_of_ble_eq_true rfl) ?_
  refine x_aload_n (i := 0) dX2_clearAnswers_0 rfl rfl ?_
  refine x_iconst (v := 0) dX2_clearAnswers_1 (by decide) ?_
  refine x_put fpX2_22 dX2_clearAnswers_2 (by first | decide | assumption) (by first | assumption | exact x_up_s | (refine (x_up_n (by first | decide | assumption)).trans ?_; first | assumption | exact x_up_s | (refine (x_up_n (by first | decide | assumption)).trans ?_; first | assumption | exact x_up_s | (refine (x_up_n (by first | decide | assumption)).trans ?_; first | assumption | exact x_up_s | (refine (x_up_n (by first | decide | assumption)).trans ?_; first | assumption | exact x_up_s | (refine (x_up_n (by first | decide | assumption)).trans ?_; first | assumption | exact x_up_s | (refine (x_up_n (by first | decide | assumption)).trans ?_; first | assumption | exact x_up_s | (refine (x_up_n (by first | decide | assumption)).trans ?_; first | assumption | exact x_up_s | (refine (x_up_n (by first | decide | assumption)).trans ?_; first | assumption | exact x_up_s | (refine (x_up_n (by first | decide | assumption)).trans ?_; first | assumption | exact x_up_s | (refine (x_up_n (by first | decide | assumption)).trans ?_; first | assumption | exact x_up_s | (refine (x_up_n (by first | decide | assumption)).trans ?_; first | assumption | exact x_up_s | (refine (x_up_n (by first | decide | assumption)).trans ?_; first | assumption | exact x_up_s | (refine (x_up_n (by first | decide | assumption)).trans ?_; first | assumption | exact x_up_s)))))))))))))) rfl rfl (fun _ => rfl) (Nat.le_of_ble_eq_true rfl) rfl ?_
  refine x_iconst (v := 0) dX2_clearAnswers_5 (by decide) ?_
  refine x_istore_n (i := 1) dX2_clearAnswers_6 rfl (by decide) ?_
  refine x_hp (h' := x_up (x_up (x_up h 10 (x_sr fr 0 ak ls)) 12 (x_na 4 (mixN 0 (fun _ => 0) Fi))) 13 (x_na 4 (mixN 0 (fun _ => 0) Ca))) ?_ ?_
  · rw [mixN_0, mixN_0, x_up_eta (h := x_up h 10 _) (by exact h2), x_up_eta (h := x_up h 10 _) (by exact h3)]; rfl
  refine x_wk (cR_clear1 d _ x_up_s _ Fi Ca ?_ 4 0 (by omega)) ⟨rfl, rfl, trivial⟩
  refine x_iconst (v := 0) dX2_clearAnswers_32 (by decide) ?_
  refine x_istore_n (i := 1) dX2_clearAnswers_33 rfl (by decide) ?_
  refine x_hp (h' := x_up (x_up (x_up (x_up h 10 (x_sr fr 0 ak ls)) 12 (x_na 4 (mixN 4 (fun _ => 0) Fi))) 13 (x_na 4 (mixN 4 (fun _ => 0) Ca))) 14 (x_na 8 (mixN 0 (fun _ => 0) Cr))) (by rw [mixN_0]; exact (x_up_eta (by exact h4)).symm) ?_
  exact x_wk (cR_clear2 d _ (by first | assumption | exact x_up_s | (refine (x_up_n (by first | decide | assumption)).trans ?_; first | assumption | exact x_up_s | (refine (x_up_n (by first | decide | assumption)).trans ?_; first | assumption | exact x_up_s | (refine (x_up_n (by first | decide | assumption)).trans ?_; first | assumption | exact x_up_s | (refine (x_up_n (by first | decide | assumption)).trans ?_; first | assumption | exact x_up_s | (refine (x_up_n (by first | decide | assumption)).trans ?_; first | assumption | exact x_up_s | (refine (x_up_n (by first | decide | assumption)).trans ?_; first | assumption | exact x_up_s | (refine (x_up_n (by first | decide | assumption)).trans ?_; first | assumption | exact x_up_s | (refine (x_up_n (by first | decide | assumption)).trans ?_; first | assumption | exact x_up_s | (refine (x_up_n (by first | decide | assumption)).trans ?_; first | assumption | exact x_up_s | (refine (x_up_n (by first | decide | assumption)).trans ?_; first | assumption | exact x_up_s | (refine (x_up_n (by first | decide | assumption)).trans ?_; first | assumption | exact x_up_s | (refine (x_up_n (by first | decide | assumption)).trans ?_; first | assumption | exact x_up_s | (refine (x_up_n (by first | decide | assumption)).trans ?_; first | assumption | exact x_up_s)))))))))))))) _ Cr ⟨rfl, rfl⟩ 8 0 (by omega)) ⟨rfl, rfl, trivial⟩
theorem pplA_lt : ∀ (b : Bd) (a : Nat), a < 256 → pplA a b < 256
  | [], _, h => h
  | q :: c, a, h => by
    unfold pplA
    refine pplA_lt c _ ?_
    split
    · exact or_lt8 h (pow_lt8 (by assumption))
    · exact h
theorem ppl_lt (b : Bd) : ppl b < 256 := pplA_lt b 0 (by decide)
theorem n_andN (m k : Nat) : nI m &&& (nI k ^^^ (-1)) = nI (andN m k) := by
  apply Int32.toBitVec_inj.1
  show BitVec.ofNat 32 m &&& (BitVec.ofNat 32 k ^^^ BitVec.ofInt 32 (-1)) = BitVec.ofNat 32 (andN m k)
  have e : BitVec.ofInt 32 (-1) = BitVec.allOnes 32 := by decide
  rw [e]
  apply BitVec.eq_of_getLsbD_eq
  intro i hi
  simp only [BitVec.getLsbD_and, BitVec.getLsbD_xor, BitVec.getLsbD_allOnes, BitVec.getLsbD_ofNat, andN_bit, hi, decide_true, Bool.true_and, Bool.xor_true]
theorem andN_lt {m k : Nat} (h : m < 256) : andN m k < 256 := by
  unfold andN
  exact Nat.xor_lt_two_pow (n := 8) h (Nat.lt_of_le_of_lt Nat.and_le_left h)
def hbh (W U : Nat → Nat) (j : Nat) (b : Bd) : Bool := decide (andN (W j) (ppl b) = 0) && decide (U j &&& ppl b = 0)
set_option maxRecDepth 100000 in
set_option maxHeartbeats 4000000 in
theorem cR_hb (d : Nat) (h : x_H) {fr wy ak ls : Int32} {W U : Nat → Nat} {L w : Nat} {b : Bd} (hR : h 10 = x_sr fr wy ak ls) (hB : h 11 = x_bd L w b) (hb : okB L b) (hW : h 17 = x_na 41 W) (hU : h 18 = x_na 41 U) (hW8 : ∀ j, W j < 256) (hU8 : ∀ j, U j < 256) (j : Nat) (hj : j ≤ 40) : x_Ct (d + 2) mX2_holdsBehind [.ref 10, .int (nI j)] h (fun r h' => r = some (.int (b2I (hbh W U j b))) ∧ h' = h) := by
  have hp := ppl_lt b
  have ha := andN_lt (k := ppl b) (hW8 j)
  have hu : U j &&& ppl b < 256 := Nat.lt_of_le_of_lt Nat.and_le_left (hU8 j)
  refine x_enter pnX2_holdsBehind (Nat.le_of_ble_eq_true rfl) ?_
  refine x_aload_n (i := 0) dX2_holdsBehind_0 rfl rfl ?_
  refine x_iload_n (i := 1) dX2_holdsBehind_1 rfl rfl ?_
  refine x_invV clX2_128 dX2_holdsBehind_2 (cR_sgt d h hR hW hU hW8 hU8 j hj) (by omega) rfl (by first | decide | assumption) (by first | assumption | exact x_up_s | (refine (x_up_n (by first | decide | assumption)).trans ?_; first | assumption | exact x_up_s | (refine (x_up_n (by first | decide | assumption)).trans ?_; first | assumption | exact x_up_s | (refine (x_up_n (by first | decide | assumption)).trans ?_; first | assumption | exact x_up_s | (refine (x_up_n (by first | decide | assumption)).trans ?_; first | assumption | exact x_up_s | (refine (x_up_n (by first | decide | assumption)).trans ?_; first | assumption | exact x_up_s | (refine (x_up_n (by first | decide | assumption)).trans ?_; first | assumption | exact x_up_s | (refine (x_up_n (by first | decide | assumption)).trans ?_; first | assumption | exact x_up_s | (refine (x_up_n (by first | decide | assumption)).trans ?_; first | assumption | exact x_up_s | (refine (x_up_n (by first | decide | assumption)).trans ?_; first | assumption | exact x_up_s | (refine (x_up_n (by first | decide | assumption)).trans ?_; first | assumption | exact x_up_s | (refine (x_up_n (by first | decide | assumption)).trans ?_; first | assumption | exact x_up_s | (refine (x_up_n (by first | decide | assumption)).trans ?_; first | assumption | exact x_up_s | (refine (x_up_n (by first | decide | assumption)).trans ?_; first | assumption | exact x_up_s)))))))))))))) rfl (Nat.le_of_ble_eq_true rfl) ?_
  rintro r h' ⟨rfl, rfl⟩
  cases hs : sgt W U j with
  | false =>
    have h0 : W j ||| U j = 0 := by
      have := of_decide_eq_false hs
      exact Decidable.not_not.mp this
    have hw0 : W j = 0 := by have := Nat.left_le_or (n := W j) (m := U j); omega
    have hu0 : U j = 0 := by have := Nat.right_le_or (n := W j) (m := U j); omega
    refine x_if_ne 10 dX2_holdsBehind_5 (by decide) (fun hc => absurd (rfl) hc) (fun _ => ?_)
    refine x_iconst (v := 1) dX2_holdsBehind_8 (by decide) ?_
    have : hbh W U j b = true := by unfold hbh andN; rw [hw0, hu0]; simp
    refine x_zret dX2_holdsBehind_9 rfl (by first | rfl | decide | assumption) ⟨by rw [this]; rfl, rfl⟩
  | true =>
    refine x_if_ne 10 dX2_holdsBehind_5 (by decide) (fun _ => ?_) (fun hc => absurd hc (by decide))
    refine x_aload_n (i := 0) dX2_holdsBehind_10 rfl rfl ?_
    refine x_get flX2_12 dX2_holdsBehind_11 (by first | decide | assumption) (by first | assumption | exact x_up_s | (refine (x_up_n (by first | decide | assumption)).trans ?_; first | assumption | exact x_up_s | (refine (x_up_n (by first | decide | assumption)).trans ?_; first | assumption | exact x_up_s | (refine (x_up_n (by first | decide | assumption)).trans ?_; first | assumption | exact x_up_s | (refine (x_up_n (by first | decide | assumption)).trans ?_; first | assumption | exact x_up_s | (refine (x_up_n (by first | decide | assumption)).trans ?_; first | assumption | exact x_up_s | (refine (x_up_n (by first | decide | assumption)).trans ?_; first | assumption | exact x_up_s | (refine (x_up_n (by first | decide | assumption)).trans ?_; first | assumption | exact x_up_s | (refine (x_up_n (by first | decide | assumption)).trans ?_; first | assumption | exact x_up_s | (refine (x_up_n (by first | decide | assumption)).trans ?_; first | assumption | exact x_up_s | (refine (x_up_n (by first | decide | assumption)).trans ?_; first | assumption | exact x_up_s | (refine (x_up_n (by first | decide | assumption)).trans ?_; first | assumption | exact x_up_s | (refine (x_up_n (by first | decide | assumption)).trans ?_; first | assumption | exact x_up_s | (refine (x_up_n (by first | decide | assumption)).trans ?_; first | assumption | exact x_up_s)))))))))))))) rfl ?_
    refine x_invV clX2_150 dX2_holdsBehind_14 (cB_people d 11 (by decide) _ hB hb) (by omega) rfl (by first | decide | assumption) (by first | assumption | exact x_up_s | (refine (x_up_n (by first | decide | assumption)).trans ?_; first | assumption | exact x_up_s | (refine (x_up_n (by first | decide | assumption)).trans ?_; first | assumption | exact x_up_s | (refine (x_up_n (by first | decide | assumption)).trans ?_; first | assumption | exact x_up_s | (refine (x_up_n (by first | decide | assumption)).trans ?_; first | assumption | exact x_up_s | (refine (x_up_n (by first | decide | assumption)).trans ?_; first | assumption | exact x_up_s | (refine (x_up_n (by first | decide | assumption)).trans ?_; first | assumption | exact x_up_s | (refine (x_up_n (by first | decide | assumption)).trans ?_; first | assumption | exact x_up_s | (refine (x_up_n (by first | decide | assumption)).trans ?_; first | assumption | exact x_up_s | (refine (x_up_n (by first | decide | assumption)).trans ?_; first | assumption | exact x_up_s | (refine (x_up_n (by first | decide | assumption)).trans ?_; first | assumption | exact x_up_s | (refine (x_up_n (by first | decide | assumption)).trans ?_; first | assumption | exact x_up_s | (refine (x_up_n (by first | decide | assumption)).trans ?_; first | assumption | exact x_up_s | (refine (x_up_n (by first | decide | assumption)).trans ?_; first | assumption | exact x_up_s)))))))))))))) rfl (Nat.le_of_ble_eq_true rfl) ?_
    rintro r h'' ⟨rfl, rfl⟩
    refine x_istore_n (i := 2) dX2_holdsBehind_17 rfl (by decide) ?_
    refine x_aload_n (i := 0) dX2_holdsBehind_18 rfl rfl ?_
    refine x_get flX2_45 dX2_holdsBehind_19 (by first | decide | assumption) (by first | assumption | exact x_up_s | (refine (x_up_n (by first | decide | assumption)).trans ?_; first | assumption | exact x_up_s | (refine (x_up_n (by first | decide | assumption)).trans ?_; first | assumption | exact x_up_s | (refine (x_up_n (by first | decide | assumption)).trans ?_; first | assumption | exact x_up_s | (refine (x_up_n (by first | decide | assumption)).trans ?_; first | assumption | exact x_up_s | (refine (x_up_n (by first | decide | assumption)).trans ?_; first | assumption | exact x_up_s | (refine (x_up_n (by first | decide | assumption)).trans ?_; first | assumption | exact x_up_s | (refine (x_up_n (by first | decide | assumption)).trans ?_; first | assumption | exact x_up_s | (refine (x_up_n (by first | decide | assumption)).trans ?_; first | assumption | exact x_up_s | (refine (x_up_n (by first | decide | assumption)).trans ?_; first | assumption | exact x_up_s | (refine (x_up_n (by first | decide | assumption)).trans ?_; first | assumption | exact x_up_s | (refine (x_up_n (by first | decide | assumption)).trans ?_; first | assumption | exact x_up_s | (refine (x_up_n (by first | decide | assumption)).trans ?_; first | assumption | exact x_up_s | (refine (x_up_n (by first | decide | assumption)).trans ?_; first | assumption | exact x_up_s)))))))))))))) rfl ?_
    refine x_iload_n (i := 1) dX2_holdsBehind_22 rfl rfl ?_
    refine x_iald j dX2_holdsBehind_23 (by first | decide | assumption) (by first | assumption | exact x_up_s | (refine (x_up_n (by first | decide | assumption)).trans ?_; first | assumption | exact x_up_s | (refine (x_up_n (by first | decide | assumption)).trans ?_; first | assumption | exact x_up_s | (refine (x_up_n (by first | decide | assumption)).trans ?_; first | assumption | exact x_up_s | (refine (x_up_n (by first | decide | assumption)).trans ?_; first | assumption | exact x_up_s | (refine (x_up_n (by first | decide | assumption)).trans ?_; first | assumption | exact x_up_s | (refine (x_up_n (by first | decide | assumption)).trans ?_; first | assumption | exact x_up_s | (refine (x_up_n (by first | decide | assumption)).trans ?_; first | assumption | exact x_up_s | (refine (x_up_n (by first | decide | assumption)).trans ?_; first | assumption | exact x_up_s | (refine (x_up_n (by first | decide | assumption)).trans ?_; first | assumption | exact x_up_s | (refine (x_up_n (by first | decide | assumption)).trans ?_; first | assumption | exact x_up_s | (refine (x_up_n (by first | decide | assumption)).trans ?_; first | assumption | exact x_up_s | (refine (x_up_n (by first | decide | assumption)).trans ?_; first | assumption | exact x_up_s | (refine (x_up_n (by first | decide | assumption)).trans ?_; first | assumption | exact x_up_s)))))))))))))) rfl (by omega) (by decide) ?_
    refine x_iload_n (i := 2) dX2_holdsBehind_24 rfl rfl ?_
    refine x_iconst (v := (-1)) dX2_holdsBehind_25 (by decide) ?_
    refine x_ixor dX2_holdsBehind_26 ?_
    refine x_iand dX2_holdsBehind_27 ?_
    refine x_topi (n_andN _ _) ?_
    refine x_if_ne 46 dX2_holdsBehind_28 (by decide) (fun hc => ?_) (fun hc => ?_)
    · have : hbh W U j b = false := by
        unfold hbh
        rw [decide_eq_false (fun q => hc (by rw [q]; rfl)), Bool.false_and]
      refine x_iconst (v := 0) dX2_holdsBehind_46 (by decide) ?_
      refine x_zret dX2_holdsBehind_47 rfl (by first | rfl | decide | assumption) ⟨by rw [this]; rfl, rfl⟩
    · have h1 : andN (W j) (ppl b) = 0 := nI_inj (b := 0) (by omega) (by decide) hc
      refine x_aload_n (i := 0) dX2_holdsBehind_31 rfl rfl ?_
      refine x_get flX2_48 dX2_holdsBehind_32 (by first | decide | assumption) (by first | assumption | exact x_up_s | (refine (x_up_n (by first | decide | assumption)).trans ?_; first | assumption | exact x_up_s | (refine (x_up_n (by first | decide | assumption)).trans ?_; first | assumption | exact x_up_s | (refine (x_up_n (by first | decide | assumption)).trans ?_; first | assumption | exact x_up_s | (refine (x_up_n (by first | decide | assumption)).trans ?_; first | assumption | exact x_up_s | (refine (x_up_n (by first | decide | assumption)).trans ?_; first | assumption | exact x_up_s | (refine (x_up_n (by first | decide | assumption)).trans ?_; first | assumption | exact x_up_s | (refine (x_up_n (by first | decide | assumption)).trans ?_; first | assumption | exact x_up_s | (refine (x_up_n (by first | decide | assumption)).trans ?_; first | assumption | exact x_up_s | (refine (x_up_n (by first | decide | assumption)).trans ?_; first | assumption | exact x_up_s | (refine (x_up_n (by first | decide | assumption)).trans ?_; first | assumption | exact x_up_s | (refine (x_up_n (by first | decide | assumption)).trans ?_; first | assumption | exact x_up_s | (refine (x_up_n (by first | decide | assumption)).trans ?_; first | assumption | exact x_up_s | (refine (x_up_n (by first | decide | assumption)).trans ?_; first | assumption | exact x_up_s)))))))))))))) rfl ?_
      refine x_iload_n (i := 1) dX2_holdsBehind_35 rfl rfl ?_
      refine x_iald j dX2_holdsBehind_36 (by first | decide | assumption) (by first | assumption | exact x_up_s | (refine (x_up_n (by first | decide | assumption)).trans ?_; first | assumption | exact x_up_s | (refine (x_up_n (by first | decide | assumption)).trans ?_; first | assumption | exact x_up_s | (refine (x_up_n (by first | decide | assumption)).trans ?_; first | assumption | exact x_up_s | (refine (x_up_n (by first | decide | assumption)).trans ?_; first | assumption | exact x_up_s | (refine (x_up_n (by first | decide | assumption)).trans ?_; first | assumption | exact x_up_s | (refine (x_up_n (by first | decide | assumption)).trans ?_; first | assumption | exact x_up_s | (refine (x_up_n (by first | decide | assumption)).trans ?_; first | assumption | exact x_up_s | (refine (x_up_n (by first | decide | assumption)).trans ?_; first | assumption | exact x_up_s | (refine (x_up_n (by first | decide | assumption)).trans ?_; first | assumption | exact x_up_s | (refine (x_up_n (by first | decide | assumption)).trans ?_; first | assumption | exact x_up_s | (refine (x_up_n (by first | decide | assumption)).trans ?_; first | assumption | exact x_up_s | (refine (x_up_n (by first | decide | assumption)).trans ?_; first | assumption | exact x_up_s | (refine (x_up_n (by first | decide | assumption)).trans ?_; first | assumption | exact x_up_s)))))))))))))) rfl (by omega) (by decide) ?_
      refine x_iload_n (i := 2) dX2_holdsBehind_37 rfl rfl ?_
      refine x_iand dX2_holdsBehind_38 ?_
      refine x_topi (n_and _ _) ?_
      refine x_if_ne 46 dX2_holdsBehind_39 (by decide) (fun hd => ?_) (fun hd => ?_)
      · have : hbh W U j b = false := by
          unfold hbh
          rw [decide_eq_false (p := U j &&& ppl b = 0) (fun q => hd (by rw [q]; rfl)), Bool.and_false]
        refine x_iconst (v := 0) dX2_holdsBehind_46 (by decide) ?_
        refine x_zret dX2_holdsBehind_47 rfl (by first | rfl | decide | assumption) ⟨by rw [this]; rfl, rfl⟩
      · have h2 : U j &&& ppl b = 0 := nI_inj (b := 0) (by omega) (by decide) hd
        have : hbh W U j b = true := by
          unfold hbh
          rw [decide_eq_true h1, decide_eq_true h2]; rfl
        refine x_iconst (v := 1) dX2_holdsBehind_42 (by decide) ?_
        refine x_goto 47 dX2_holdsBehind_43 (by decide) ?_
        refine x_zret dX2_holdsBehind_47 rfl (by first | rfl | decide | assumption) ⟨by rw [this]; rfl, rfl⟩
/-- a board of the search: no tag -/
def okZ (L : Nat) (b : Bd) : Prop := okB L b ∧ ∀ q ∈ b, q.2 = 0
theorem bW_0 {b : Bd} (h : ∀ q ∈ b, q.2 = 0) : bW b = 0 := by
  unfold bW
  induction b with
  | nil => rfl
  | cons q c ih =>
    simp only [List.map_cons, dg]
    rw [h q List.mem_cons_self, ih (fun r hr => h r (List.mem_cons_of_mem _ hr))]
theorem bdrop_sub {nm : Nat} {b : Bd} {q : Nat × Nat} (h : q ∈ bdrop nm b) : q ∈ b := by
  unfold bdrop at h
  split at h
  · exact List.mem_of_mem_eraseIdx h
  · exact h
theorem bw_sub {w L : Nat} {e : Nat × Nat} {b : Bd} {q : Nat × Nat} (h : q ∈ bw w L e b) : q = e ∨ q ∈ b := by
  unfold bw at h
  dsimp only at h
  have h2 : q ∈ (e :: (if w = 1 ∧ e.1 ≠ 8 then bdrop e.1 b else b)).take L := by
    split at h
    · exact List.mem_of_mem_eraseIdx h
    · exact h
  rcases List.mem_cons.mp (List.mem_of_mem_take h2) with h | h
  · exact Or.inl h
  · right
    split at h
    · exact bdrop_sub h
    · exact h
theorem okZ_bw {w L p : Nat} {b : Bd} (h : okZ L b) (hp : p ≤ 8) : okZ L (bw w L (p, 0) b) :=
  ⟨okB_bw h.1 hp (by show 0 < 64; decide), fun q hq => (bw_sub hq).elim (fun e => by rw [e]) (h.2 q)⟩
def wkA (W U : Nat → Nat) (T : Nat → Option Nat) (w L : Nat) : Nat → Nat → Bd → Bool × Bd
  | 0, _, b => (true, b)
  | f + 1, i, b =>
    let b1 := match T i with
      | some p => bw w L (p, 0) b
      | none => b
    if hbh W U (i + 1) b1 then wkA W U T w L f (i + 1) b1 else (false, b1)
theorem okZ_wkA {W U : Nat → Nat} {T : Nat → Option Nat} {w L : Nat} (hT : ∀ j p, T j = some p → p < 8) : ∀ (f i : Nat) (b : Bd), okZ L b → okZ L (wkA W U T w L f i b).2
  | 0, _, _, h => h
  | f + 1, i, b, h => by
    unfold wkA
    dsimp only
    have h1 : okZ L (match T i with
      | some p => bw w L (p, 0) b
      | none => b) := by
      cases ht : T i with
      | none => exact h
      | some p => exact okZ_bw h (by have := hT i p ht; omega)
    generalize (match T i with
      | some p => bw w L (p, 0) b
      | none => b) = b1 at h1 ⊢
    split
    · exact okZ_wkA hT f (i + 1) b1 h1
    · exact h1
set_option maxRecDepth 100000 in
set_option maxHeartbeats 4000000 in
theorem cR_walk_loop (d : Nat) (h : x_H) {fr wy ak : Int32} {l : Nat} {W U : Nat → Nat} {T : Nat → Option Nat} {L w : Nat} (hR : h 10 = x_sr fr wy ak (nI l)) (hl : l ≤ 40) (hw : w ≤ 2) (hW : h 17 = x_na 41 W) (hU : h 18 = x_na 41 U) (hT : h 19 = x_oa 40 T) (hW8 : ∀ j, W j < 256) (hU8 : ∀ j, U j < 256) (hT8 : ∀ j p, T j = some p → p < 8) (i1 : Int32) (to : Nat) (hto : to ≤ 40) (Q : Option Value → x_H → Prop) :
    ∀ (f i : Nat) (b : Bd), f = min to l - i → i ≤ 40 → okZ L b → Q (some (.int (b2I (wkA W U T w L f i b).1))) (x_up h 11 (x_bd L w (wkA W U T w L f i b).2)) →
      x_V (d + 3) mX2_walk 2 (x_ls [some (.ref 10), some (.int i1), some (.int (nI to)), some (.int (nI i))]) [] (x_up h 11 (x_bd L w b)) Q := by
  intro f
  induction f with
  | zero =>
    intro i b hf hi hb hq
    refine x_iload_n (i := 3) dX2_walk_2 rfl rfl ?_
    refine x_iload_n (i := 2) dX2_walk_3 rfl rfl ?_
    refine x_icmp_ge 63 dX2_walk_4 (by decide) (fun hc => ?_) (fun hc => ?_)
    · refine x_iconst (v := 1) dX2_walk_63 (by decide) ?_
      refine x_zret dX2_walk_64 rfl (by first | rfl | decide | assumption) hq
    · have : i < to := by
        rcases Nat.lt_or_ge i to with q | q
        · exact q
        · exact absurd (nI_le q (by omega)) hc
      refine x_iload_n (i := 3) dX2_walk_7 rfl rfl ?_
      refine x_aload_n (i := 0) dX2_walk_8 rfl rfl ?_
      refine x_get flX2_51 dX2_walk_9 (by first | decide | assumption) (by first | assumption | exact x_up_s | (refine (x_up_n (by first | decide | assumption)).trans ?_; first | assumption | exact x_up_s | (refine (x_up_n (by first | decide | assumption)).trans ?_; first | assumption | exact x_up_s | (refine (x_up_n (by first | decide | assumption)).trans ?_; first | assumption | exact x_up_s | (refine (x_up_n (by first | decide | assumption)).trans ?_; first | assumption | exact x_up_s | (refine (x_up_n (by first | decide | assumption)).trans ?_; first | assumption | exact x_up_s | (refine (x_up_n (by first | decide | assumption)).trans ?_; first | assumption | exact x_up_s | (refine (x_up_n (by first | decide | assumption)).trans ?_; first | assumption | exact x_up_s | (refine (x_up_n (by first | decide | assumption)).trans ?_; first | assumption | exact x_up_s | (refine (x_up_n (by first | decide | assumption)).trans ?_; first | assumption | exact x_up_s | (refine (x_up_n (by first | decide | assumption)).trans ?_; first | assumption | exact x_up_s | (refine (x_up_n (by first | decide | assumption)).trans ?_; first | assumption | exact x_up_s | (refine (x_up_n (by first | decide | assumption)).trans ?_; first | assumption | exact x_up_s | (refine (x_up_n (by first | decide | assumption)).trans ?_; first | assumption | exact x_up_s)))))))))))))) rfl ?_
      refine x_icmp_ge 63 dX2_walk_12 (by decide) (fun _ => ?_) (fun hc => absurd (nI_le (by omega) (by omega)) hc)
      refine x_iconst (v := 1) dX2_walk_63 (by decide) ?_
      refine x_zret dX2_walk_64 rfl (by first | rfl | decide | assumption) hq
  | succ f ih =>
    intro i b hf hi hb hq
    unfold wkA at hq
    dsimp only at hq
    have tail : ∀ b1 : Bd, b1 = (match T i with
        | some p => bw w L (p, 0) b
        | none => b) → okZ L b1 → x_V (d + 3) mX2_walk 45 (x_ls [some (.ref 10), some (.int i1), some (.int (nI to)), some (.int (nI i))]) [] (x_up h 11 (x_bd L w b1)) Q := by
      intro b1 he hb1
      rw [← he] at hq
      refine x_aload_n (i := 0) dX2_walk_45 rfl rfl ?_
      refine x_iload_n (i := 3) dX2_walk_46 rfl rfl ?_
      refine x_iconst (v := 1) dX2_walk_47 (by decide) ?_
      refine x_iadd dX2_walk_48 ?_
      refine x_topi (nI_1 i) ?_
      refine x_invV clX2_83 dX2_walk_49 (cR_hb d _ (by first | assumption | exact x_up_s | (refine (x_up_n (by first | decide | assumption)).trans ?_; first | assumption | exact x_up_s | (refine (x_up_n (by first | decide | assumption)).trans ?_; first | assumption | exact x_up_s | (refine (x_up_n (by first | decide | assumption)).trans ?_; first | assumption | exact x_up_s | (refine (x_up_n (by first | decide | assumption)).trans ?_; first | assumption | exact x_up_s | (refine (x_up_n (by first | decide | assumption)).trans ?_; first | assumption | exact x_up_s | (refine (x_up_n (by first | decide | assumption)).trans ?_; first | assumption | exact x_up_s | (refine (x_up_n (by first | decide | assumption)).trans ?_; first | assumption | exact x_up_s | (refine (x_up_n (by first | decide | assumption)).trans ?_; first | assumption | exact x_up_s | (refine (x_up_n (by first | decide | assumption)).trans ?_; first | assumption | exact x_up_s | (refine (x_up_n (by first | decide | assumption)).trans ?_; first | assumption | exact x_up_s | (refine (x_up_n (by first | decide | assumption)).trans ?_; first | assumption | exact x_up_s | (refine (x_up_n (by first | decide | assumption)).trans ?_; first | assumption | exact x_up_s | (refine (x_up_n (by first | decide | assumption)).trans ?_; first | assumption | exact x_up_s)))))))))))))) x_up_s hb1.1 (by first | assumption | exact x_up_s | (refine (x_up_n (by first | decide | assumption)).trans ?_; first | assumption | exact x_up_s | (refine (x_up_n (by first | decide | assumption)).trans ?_; first | assumption | exact x_up_s | (refine (x_up_n (by first | decide | assumption)).trans ?_; first | assumption | exact x_up_s | (refine (x_up_n (by first | decide | assumption)).trans ?_; first | assumption | exact x_up_s | (refine (x_up_n (by first | decide | assumption)).trans ?_; first | assumption | exact x_up_s | (refine (x_up_n (by first | decide | assumption)).trans ?_; first | assumption | exact x_up_s | (refine (x_up_n (by first | decide | assumption)).trans ?_; first | assumption | exact x_up_s | (refine (x_up_n (by first | decide | assumption)).trans ?_; first | assumption | exact x_up_s | (refine (x_up_n (by first | decide | assumption)).trans ?_; first | assumption | exact x_up_s | (refine (x_up_n (by first | decide | assumption)).trans ?_; first | assumption | exact x_up_s | (refine (x_up_n (by first | decide | assumption)).trans ?_; first | assumption | exact x_up_s | (refine (x_up_n (by first | decide | assumption)).trans ?_; first | assumption | exact x_up_s | (refine (x_up_n (by first | decide | assumption)).trans ?_; first | assumption | exact x_up_s)))))))))))))) (by first | assumption | exact x_up_s | (refine (x_up_n (by first | decide | assumption)).trans ?_; first | assumption | exact x_up_s | (refine (x_up_n (by first | decide | assumption)).trans ?_; first | assumption | exact x_up_s | (refine (x_up_n (by first | decide | assumption)).trans ?_; first | assumption | exact x_up_s | (refine (x_up_n (by first | decide | assumption)).trans ?_; first | assumption | exact x_up_s | (refine (x_up_n (by first | decide | assumption)).trans ?_; first | assumption | exact x_up_s | (refine (x_up_n (by first | decide | assumption)).trans ?_; first | assumption | exact x_up_s | (refine (x_up_n (by first | decide | assumption)).trans ?_; first | assumption | exact x_up_s | (refine (x_up_n (by first | decide | assumption)).trans ?_; first | assumption | exact x_up_s | (refine (x_up_n (by first | decide | assumption)).trans ?_; first | assumption | exact x_up_s | (refine (x_up_n (by first | decide | assumption)).trans ?_; first | assumption | exact x_up_s | (refine (x_up_n (by first | decide | assumption)).trans ?_; first | assumption | exact x_up_s | (refine (x_up_n (by first | decide | assumption)).trans ?_; first | assumption | exact x_up_s | (refine (x_up_n (by first | decide | assumption)).trans ?_; first | assumption | exact x_up_s)))))))))))))) hW8 hU8 (i + 1) (by omega)) (by omega) rfl (by first | decide | assumption) (by first | assumption | exact x_up_s | (refine (x_up_n (by first | decide | assumption)).trans ?_; first | assumption | exact x_up_s | (refine (x_up_n (by first | decide | assumption)).trans ?_; first | assumption | exact x_up_s | (refine (x_up_n (by first | decide | assumption)).trans ?_; first | assumption | exact x_up_s | (refine (x_up_n (by first | decide | assumption)).trans ?_; first | assumption | exact x_up_s | (refine (x_up_n (by first | decide | assumption)).trans ?_; first | assumption | exact x_up_s | (refine (x_up_n (by first | decide | assumption)).trans ?_; first | assumption | exact x_up_s | (refine (x_up_n (by first | decide | assumption)).trans ?_; first | assumption | exact x_up_s | (refine (x_up_n (by first | decide | assumption)).trans ?_; first | assumption | exact x_up_s | (refine (x_up_n (by first | decide | assumption)).trans ?_; first | assumption | exact x_up_s | (refine (x_up_n (by first | decide | assumption)).trans ?_; first | assumption | exact x_up_s | (refine (x_up_n (by first | decide | assumption)).trans ?_; first | assumption | exact x_up_s | (refine (x_up_n (by first | decide | assumption)).trans ?_; first | assumption | exact x_up_s | (refine (x_up_n (by first | decide | assumption)).trans ?_; first | assumption | exact x_up_s)))))))))))))) rfl (Nat.le_of_ble_eq_true rfl) ?_
      rintro r h' ⟨rfl, rfl⟩
      cases hh : hbh W U (i + 1) b1 with
      | true =>
        rw [hh] at hq
        simp only [if_true] at hq
        refine x_if_ne 57 dX2_walk_52 (by decide) (fun _ => ?_) (fun hc => absurd hc (by decide))
        first | refine x_incN dX2_walk_57 rfl (by decide) ?_ | refine x_iinc dX2_walk_57 rfl rfl (by decide) ?_
        refine x_goto 2 dX2_walk_60 (by decide) ?_
        exact x_wk (ih (i + 1) b1 (by omega) (by omega) hb1 hq) ⟨rfl, rfl, rfl, rfl, trivial⟩
      | false =>
        rw [hh] at hq
        simp only [Bool.false_eq_true, if_false] at hq
        refine x_if_ne 57 dX2_walk_52 (by decide) (fun hc => absurd (rfl) hc) (fun _ => ?_)
        refine x_iconst (v := 0) dX2_walk_55 (by decide) ?_
        refine x_zret dX2_walk_56 rfl (by first | rfl | decide | assumption) hq
    refine x_iload_n (i := 3) dX2_walk_2 rfl rfl ?_
    refine x_iload_n (i := 2) dX2_walk_3 rfl rfl ?_
    refine x_icmp_ge 63 dX2_walk_4 (by decide) (fun hc => absurd hc (nI_ge (by omega) (by omega))) (fun _ => ?_)
    refine x_iload_n (i := 3) dX2_walk_7 rfl rfl ?_
    refine x_aload_n (i := 0) dX2_walk_8 rfl rfl ?_
    refine x_get flX2_51 dX2_walk_9 (by first | decide | assumption) (by first | assumption | exact x_up_s | (refine (x_up_n (by first | decide | assumption)).trans ?_; first | assumption | exact x_up_s | (refine (x_up_n (by first | decide | assumption)).trans ?_; first | assumption | exact x_up_s | (refine (x_up_n (by first | decide | assumption)).trans ?_; first | assumption | exact x_up_s | (refine (x_up_n (by first | decide | assumption)).trans ?_; first | assumption | exact x_up_s | (refine (x_up_n (by first | decide | assumption)).trans ?_; first | assumption | exact x_up_s | (refine (x_up_n (by first | decide | assumption)).trans ?_; first | assumption | exact x_up_s | (refine (x_up_n (by first | decide | assumption)).trans ?_; first | assumption | exact x_up_s | (refine (x_up_n (by first | decide | assumption)).trans ?_; first | assumption | exact x_up_s | (refine (x_up_n (by first | decide | assumption)).trans ?_; first | assumption | exact x_up_s | (refine (x_up_n (by first | decide | assumption)).trans ?_; first | assumption | exact x_up_s | (refine (x_up_n (by first | decide | assumption)).trans ?_; first | assumption | exact x_up_s | (refine (x_up_n (by first | decide | assumption)).trans ?_; first | assumption | exact x_up_s | (refine (x_up_n (by first | decide | assumption)).trans ?_; first | assumption | exact x_up_s)))))))))))))) rfl ?_
    refine x_icmp_ge 63 dX2_walk_12 (by decide) (fun hc => absurd hc (nI_ge (by omega) (by omega))) (fun _ => ?_)
    refine x_iload_n (i := 3) dX2_walk_15 rfl rfl ?_
    refine x_bipush (v := 40) dX2_walk_16 (by decide) ?_
    refine x_icmp_ge 63 dX2_walk_18 (by decide) (fun hc => absurd hc (nI_ge (b := 40) (by omega) (by decide))) (fun _ => ?_)
    refine x_aload_n (i := 0) dX2_walk_21 rfl rfl ?_
    refine x_get flX2_54 dX2_walk_22 (by first | decide | assumption) (by first | assumption | exact x_up_s | (refine (x_up_n (by first | decide | assumption)).trans ?_; first | assumption | exact x_up_s | (refine (x_up_n (by first | decide | assumption)).trans ?_; first | assumption | exact x_up_s | (refine (x_up_n (by first | decide | assumption)).trans ?_; first | assumption | exact x_up_s | (refine (x_up_n (by first | decide | assumption)).trans ?_; first | assumption | exact x_up_s | (refine (x_up_n (by first | decide | assumption)).trans ?_; first | assumption | exact x_up_s | (refine (x_up_n (by first | decide | assumption)).trans ?_; first | assumption | exact x_up_s | (refine (x_up_n (by first | decide | assumption)).trans ?_; first | assumption | exact x_up_s | (refine (x_up_n (by first | decide | assumption)).trans ?_; first | assumption | exact x_up_s | (refine (x_up_n (by first | decide | assumption)).trans ?_; first | assumption | exact x_up_s | (refine (x_up_n (by first | decide | assumption)).trans ?_; first | assumption | exact x_up_s | (refine (x_up_n (by first | decide | assumption)).trans ?_; first | assumption | exact x_up_s | (refine (x_up_n (by first | decide | assumption)).trans ?_; first | assumption | exact x_up_s | (refine (x_up_n (by first | decide | assumption)).trans ?_; first | assumption | exact x_up_s)))))))))))))) rfl ?_
    refine x_iload_n (i := 3) dX2_walk_25 rfl rfl ?_
    refine x_iald i dX2_walk_26 (by first | decide | assumption) (by first | assumption | exact x_up_s | (refine (x_up_n (by first | decide | assumption)).trans ?_; first | assumption | exact x_up_s | (refine (x_up_n (by first | decide | assumption)).trans ?_; first | assumption | exact x_up_s | (refine (x_up_n (by first | decide | assumption)).trans ?_; first | assumption | exact x_up_s | (refine (x_up_n (by first | decide | assumption)).trans ?_; first | assumption | exact x_up_s | (refine (x_up_n (by first | decide | assumption)).trans ?_; first | assumption | exact x_up_s | (refine (x_up_n (by first | decide | assumption)).trans ?_; first | assumption | exact x_up_s | (refine (x_up_n (by first | decide | assumption)).trans ?_; first | assumption | exact x_up_s | (refine (x_up_n (by first | decide | assumption)).trans ?_; first | assumption | exact x_up_s | (refine (x_up_n (by first | decide | assumption)).trans ?_; first | assumption | exact x_up_s | (refine (x_up_n (by first | decide | assumption)).trans ?_; first | assumption | exact x_up_s | (refine (x_up_n (by first | decide | assumption)).trans ?_; first | assumption | exact x_up_s | (refine (x_up_n (by first | decide | assumption)).trans ?_; first | assumption | exact x_up_s | (refine (x_up_n (by first | decide | assumption)).trans ?_; first | assumption | exact x_up_s)))))))))))))) rfl (by omega) (by decide) ?_
    cases ht : T i with
    | none =>
      refine x_iconst (v := (-1)) dX2_walk_27 (by decide) ?_
      refine x_icmp_eq 45 dX2_walk_28 (by decide) (fun _ => ?_) (fun hc => absurd (rfl) hc)
      exact x_wk (tail b (by rw [ht]) hb) ⟨rfl, rfl, rfl, rfl, trivial⟩
    | some p =>
      have hp8 := hT8 i p ht
      refine x_iconst (v := (-1)) dX2_walk_27 (by decide) ?_
      refine x_icmp_eq 45 dX2_walk_28 (by decide) (fun hc => absurd hc (nI_neg1 (by omega))) (fun _ => ?_)
      refine x_aload_n (i := 0) dX2_walk_31 rfl rfl ?_
      refine x_get flX2_12 dX2_walk_32 (by first | decide | assumption) (by first | assumption | exact x_up_s | (refine (x_up_n (by first | decide | assumption)).trans ?_; first | assumption | exact x_up_s | (refine (x_up_n (by first | decide | assumption)).trans ?_; first | assumption | exact x_up_s | (refine (x_up_n (by first | decide | assumption)).trans ?_; first | assumption | exact x_up_s | (refine (x_up_n (by first | decide | assumption)).trans ?_; first | assumption | exact x_up_s | (refine (x_up_n (by first | decide | assumption)).trans ?_; first | assumption | exact x_up_s | (refine (x_up_n (by first | decide | assumption)).trans ?_; first | assumption | exact x_up_s | (refine (x_up_n (by first | decide | assumption)).trans ?_; first | assumption | exact x_up_s | (refine (x_up_n (by first | decide | assumption)).trans ?_; first | assumption | exact x_up_s | (refine (x_up_n (by first | decide | assumption)).trans ?_; first | assumption | exact x_up_s | (refine (x_up_n (by first | decide | assumption)).trans ?_; first | assumption | exact x_up_s | (refine (x_up_n (by first | decide | assumption)).trans ?_; first | assumption | exact x_up_s | (refine (x_up_n (by first | decide | assumption)).trans ?_; first | assumption | exact x_up_s | (refine (x_up_n (by first | decide | assumption)).trans ?_; first | assumption | exact x_up_s)))))))))))))) rfl ?_
      refine x_aload_n (i := 0) dX2_walk_35 rfl rfl ?_
      refine x_get flX2_54 dX2_walk_36 (by first | decide | assumption) (by first | assumption | exact x_up_s | (refine (x_up_n (by first | decide | assumption)).trans ?_; first | assumption | exact x_up_s | (refine (x_up_n (by first | decide | assumption)).trans ?_; first | assumption | exact x_up_s | (refine (x_up_n (by first | decide | assumption)).trans ?_; first | assumption | exact x_up_s | (refine (x_up_n (by first | decide | assumption)).trans ?_; first | assumption | exact x_up_s | (refine (x_up_n (by first | decide | assumption)).trans ?_; first | assumption | exact x_up_s | (refine (x_up_n (by first | decide | assumption)).trans ?_; first | assumption | exact x_up_s | (refine (x_up_n (by first | decide | assumption)).trans ?_; first | assumption | exact x_up_s | (refine (x_up_n (by first | decide | assumption)).trans ?_; first | assumption | exact x_up_s | (refine (x_up_n (by first | decide | assumption)).trans ?_; first | assumption | exact x_up_s | (refine (x_up_n (by first | decide | assumption)).trans ?_; first | assumption | exact x_up_s | (refine (x_up_n (by first | decide | assumption)).trans ?_; first | assumption | exact x_up_s | (refine (x_up_n (by first | decide | assumption)).trans ?_; first | assumption | exact x_up_s | (refine (x_up_n (by first | decide | assumption)).trans ?_; first | assumption | exact x_up_s)))))))))))))) rfl ?_
      refine x_iload_n (i := 3) dX2_walk_39 rfl rfl ?_
      refine x_iald i dX2_walk_40 (by first | decide | assumption) (by first | assumption | exact x_up_s | (refine (x_up_n (by first | decide | assumption)).trans ?_; first | assumption | exact x_up_s | (refine (x_up_n (by first | decide | assumption)).trans ?_; first | assumption | exact x_up_s | (refine (x_up_n (by first | decide | assumption)).trans ?_; first | assumption | exact x_up_s | (refine (x_up_n (by first | decide | assumption)).trans ?_; first | assumption | exact x_up_s | (refine (x_up_n (by first | decide | assumption)).trans ?_; first | assumption | exact x_up_s | (refine (x_up_n (by first | decide | assumption)).trans ?_; first | assumption | exact x_up_s | (refine (x_up_n (by first | decide | assumption)).trans ?_; first | assumption | exact x_up_s | (refine (x_up_n (by first | decide | assumption)).trans ?_; first | assumption | exact x_up_s | (refine (x_up_n (by first | decide | assumption)).trans ?_; first | assumption | exact x_up_s | (refine (x_up_n (by first | decide | assumption)).trans ?_; first | assumption | exact x_up_s | (refine (x_up_n (by first | decide | assumption)).trans ?_; first | assumption | exact x_up_s | (refine (x_up_n (by first | decide | assumption)).trans ?_; first | assumption | exact x_up_s | (refine (x_up_n (by first | decide | assumption)).trans ?_; first | assumption | exact x_up_s)))))))))))))) rfl (by omega) (by decide) ?_
      rw [ht, show oI (some p) = nI p from rfl]
      refine x_iconst (v := (-1)) dX2_walk_41 (by decide) ?_
      refine x_invV clX2_147 dX2_walk_42 (cB_write d 11 (by decide) _ x_up_s hb.1 hw p (by omega) (-1) 0 (by decide) (by decide)) (by omega) rfl (by first | decide | assumption) (by first | assumption | exact x_up_s | (refine (x_up_n (by first | decide | assumption)).trans ?_; first | assumption | exact x_up_s | (refine (x_up_n (by first | decide | assumption)).trans ?_; first | assumption | exact x_up_s | (refine (x_up_n (by first | decide | assumption)).trans ?_; first | assumption | exact x_up_s | (refine (x_up_n (by first | decide | assumption)).trans ?_; first | assumption | exact x_up_s | (refine (x_up_n (by first | decide | assumption)).trans ?_; first | assumption | exact x_up_s | (refine (x_up_n (by first | decide | assumption)).trans ?_; first | assumption | exact x_up_s | (refine (x_up_n (by first | decide | assumption)).trans ?_; first | assumption | exact x_up_s | (refine (x_up_n (by first | decide | assumption)).trans ?_; first | assumption | exact x_up_s | (refine (x_up_n (by first | decide | assumption)).trans ?_; first | assumption | exact x_up_s | (refine (x_up_n (by first | decide | assumption)).trans ?_; first | assumption | exact x_up_s | (refine (x_up_n (by first | decide | assumption)).trans ?_; first | assumption | exact x_up_s | (refine (x_up_n (by first | decide | assumption)).trans ?_; first | assumption | exact x_up_s | (refine (x_up_n (by first | decide | assumption)).trans ?_; first | assumption | exact x_up_s)))))))))))))) rfl (Nat.le_of_ble_eq_true rfl) ?_
      rintro r h' ⟨rfl, rfl⟩
      rw [x_up_up]
      exact x_wk (tail _ (by rw [ht]) (okZ_bw hb (by omega))) ⟨rfl, rfl, rfl, rfl, trivial⟩
set_option maxRecDepth 100000 in
set_option maxHeartbeats 4000000 in
theorem cR_walk (d : Nat) (h : x_H) {fr wy ak : Int32} {l : Nat} {W U : Nat → Nat} {T : Nat → Option Nat} {L w : Nat} {b : Bd} (hR : h 10 = x_sr fr wy ak (nI l)) (hl : l ≤ 40) (hw : w ≤ 2) (hB : h 11 = x_bd L w b) (hb : okZ L b) (hW : h 17 = x_na 41 W) (hU : h 18 = x_na 41 U) (hT : h 19 = x_oa 40 T) (hW8 : ∀ j, W j < 256) (hU8 : ∀ j, U j < 256) (hT8 : ∀ j p, T j = some p → p < 8) (i to : Nat) (hi : i ≤ 40) (hto : to ≤ 40) :
    x_Ct (d + 3) mX2_walk [.ref 10, .int (nI i), .int (nI to)] h (fun r h' => r = some (.int (b2I (wkA W U T w L (min to l - i) i b).1)) ∧ h' = x_up h 11 (x_bd L w (wkA W U T w L (min to l - i) i b).2)) := by
  refine x_enter pnX2_walk (Nat.le_of_ble_eq_true rfl) ?_
  refine x_iload_n (i := 1) dX2_walk_0 rfl rfl ?_
  refine x_istore_n (i := 3) dX2_walk_1 rfl (by decide) ?_
  refine x_hp (x_up_eta hB).symm ?_
  exact x_wk (cR_walk_loop d h hR hl hw hW hU hT hW8 hU8 hT8 _ to hto _ _ i b rfl hi hb ⟨rfl, rfl⟩) ⟨rfl, rfl, rfl, rfl, trivial⟩
