/-! days with crossings that are not told -/
def allF (p : Nat → Bool) : Nat → Nat → Bool
  | 0, _ => true
  | f + 1, i => p i && allF p f (i + 1)
def sgK (T : Sg) (now bh k : Nat) : Bool := !(T.2.2.2.1 k == bh) || (now.testBit (T.2.2.2.2.1 k) == (T.2.2.2.2.2 k == 1))
def fitB (T : Sg) (now bh : Nat) : Bool := allF (sgK T now bh) T.2.2.1 0
set_option maxRecDepth 100000 in
set_option maxHeartbeats 4000000 in
theorem cM_fitsAt_loop (d : Nat) (h : x_H) {sz ru pm my pl lw ev bp bi nw ka iw : Int32} {T : Sg} (ok : okSg T) (hM : h 30 = x_md sz ru (nI T.2.2.1) pm my pl lw ev bp bi nw ka iw) (t1 : h 31 = x_na 6 T.2.2.2.1) (t2 : h 32 = x_na 6 T.2.2.2.2.1) (t3 : h 33 = x_na 6 T.2.2.2.2.2) (now bh : Nat) (hnow : now < 256) (hbh : bh < 2 ^ 31) (Q : Option Value → x_H → Prop) :
    ∀ (f k : Nat) (a : Bool), k + f = T.2.2.1 → Q (some (.int (b2I (a && allF (sgK T now bh) f k)))) h → x_V d mX5_fitsAt 10 (x_ls [some (.ref 30), some (.int (nI bh)), some (.int (nI now)), some (.int (b2I a)), some (.int (nI k))]) [] h Q := by
  have hq6 := ok.2.2.2.1
  intro f
  induction f with
  | zero =>
    intro k a hk hq
    unfold allF at hq
    rw [Bool.and_true] at hq
    refine x_iload dX5_fitsAt_10 rfl ?_
    refine x_aload_n (i := 0) dX5_fitsAt_12 rfl rfl ?_
    refine x_get flX5_190 dX5_fitsAt_13 (by first | decide | assumption) (by first | assumption | exact x_up_s | (refine (x_up_n (by first | decide | assumption)).trans ?_; first | assumption | exact x_up_s | (refine (x_up_n (by first | decide | assumption)).trans ?_; first | assumption | exact x_up_s | (refine (x_up_n (by first | decide | assumption)).trans ?_; first | assumption | exact x_up_s | (refine (x_up_n (by first | decide | assumption)).trans ?_; first | assumption | exact x_up_s | (refine (x_up_n (by first | decide | assumption)).trans ?_; first | assumption | exact x_up_s | (refine (x_up_n (by first | decide | assumption)).trans ?_; first | assumption | exact x_up_s | (refine (x_up_n (by first | decide | assumption)).trans ?_; first | assumption | exact x_up_s | (refine (x_up_n (by first | decide | assumption)).trans ?_; first | assumption | exact x_up_s | (refine (x_up_n (by first | decide | assumption)).trans ?_; first | assumption | exact x_up_s | (refine (x_up_n (by first | decide | assumption)).trans ?_; first | assumption | exact x_up_s | (refine (x_up_n (by first | decide | assumption)).trans ?_; first | assumption | exact x_up_s | (refine (x_up_n (by first | decide | assumption)).trans ?_; first | assumption | exact x_up_s | (refine (x_up_n (by first | decide | assumption)).trans ?_; first | assumption | exact x_up_s)))))))))))))) rfl ?_
    refine x_icmp_ge 67 dX5_fitsAt_16 (by decide) (fun _ => ?_) (fun hc => absurd (nI_le (by omega) (by omega)) hc)
    refine x_iload_n (i := 3) dX5_fitsAt_67 rfl rfl ?_
    cases a with
    | true =>
      refine x_zret dX5_fitsAt_68 rfl (by first | rfl | decide | assumption) hq
    | false =>
      refine x_zret dX5_fitsAt_68 rfl (by first | rfl | decide | assumption) hq
  | succ f ih =>
    intro k a hk hq
    have he := ok.2.2.2.2.1 k
    have hp := ok.2.2.2.2.2.1 k
    have hi := ok.2.2.2.2.2.2 k
    unfold allF at hq
    rw [← Bool.and_assoc] at hq
    have yes : (a && sgK T now bh k) = true → x_V d mX5_fitsAt 55 (x_ls [some (.ref 30), some (.int (nI bh)), some (.int (nI now)), some (.int (b2I a)), some (.int (nI k))]) [] h Q := by
      intro h1
      rw [h1] at hq
      refine x_iconst (v := 1) dX5_fitsAt_55 (by decide) ?_
      refine x_goto 60 dX5_fitsAt_56 (by decide) ?_
      refine x_istore_n (i := 3) dX5_fitsAt_60 rfl (by decide) ?_
      first | refine x_incN dX5_fitsAt_61 rfl (by decide) ?_ | refine x_iinc dX5_fitsAt_61 rfl rfl (by decide) ?_
      refine x_goto 10 dX5_fitsAt_64 (by decide) ?_
      exact x_wk (ih (k + 1) true (by omega) hq) ⟨rfl, rfl, rfl, rfl, rfl, trivial⟩
    have no : (a && sgK T now bh k) = false → x_V d mX5_fitsAt 59 (x_ls [some (.ref 30), some (.int (nI bh)), some (.int (nI now)), some (.int (b2I a)), some (.int (nI k))]) [] h Q := by
      intro h1
      rw [h1] at hq
      refine x_iconst (v := 0) dX5_fitsAt_59 (by decide) ?_
      refine x_istore_n (i := 3) dX5_fitsAt_60 rfl (by decide) ?_
      first | refine x_incN dX5_fitsAt_61 rfl (by decide) ?_ | refine x_iinc dX5_fitsAt_61 rfl rfl (by decide) ?_
      refine x_goto 10 dX5_fitsAt_64 (by decide) ?_
      exact x_wk (ih (k + 1) false (by omega) hq) ⟨rfl, rfl, rfl, rfl, rfl, trivial⟩
    clear hq ih
    refine x_iload dX5_fitsAt_10 rfl ?_
    refine x_aload_n (i := 0) dX5_fitsAt_12 rfl rfl ?_
    refine x_get flX5_190 dX5_fitsAt_13 (by first | decide | assumption) (by first | assumption | exact x_up_s | (refine (x_up_n (by first | decide | assumption)).trans ?_; first | assumption | exact x_up_s | (refine (x_up_n (by first | decide | assumption)).trans ?_; first | assumption | exact x_up_s | (refine (x_up_n (by first | decide | assumption)).trans ?_; first | assumption | exact x_up_s | (refine (x_up_n (by first | decide | assumption)).trans ?_; first | assumption | exact x_up_s | (refine (x_up_n (by first | decide | assumption)).trans ?_; first | assumption | exact x_up_s | (refine (x_up_n (by first | decide | assumption)).trans ?_; first | assumption | exact x_up_s | (refine (x_up_n (by first | decide | assumption)).trans ?_; first | assumption | exact x_up_s | (refine (x_up_n (by first | decide | assumption)).trans ?_; first | assumption | exact x_up_s | (refine (x_up_n (by first | decide | assumption)).trans ?_; first | assumption | exact x_up_s | (refine (x_up_n (by first | decide | assumption)).trans ?_; first | assumption | exact x_up_s | (refine (x_up_n (by first | decide | assumption)).trans ?_; first | assumption | exact x_up_s | (refine (x_up_n (by first | decide | assumption)).trans ?_; first | assumption | exact x_up_s | (refine (x_up_n (by first | decide | assumption)).trans ?_; first | assumption | exact x_up_s)))))))))))))) rfl ?_
    refine x_icmp_ge 67 dX5_fitsAt_16 (by decide) (fun hc => absurd hc (nI_ge (by omega) (by omega))) (fun _ => ?_)
    refine x_iload_n (i := 3) dX5_fitsAt_19 rfl rfl ?_
    cases a with
    | false =>
      refine x_if_eq 59 dX5_fitsAt_20 (by decide) (fun _ => ?_) (fun hc => absurd (rfl) hc)
      exact x_wk (no rfl) ⟨rfl, rfl, rfl, rfl, rfl, trivial⟩
    | true =>
      rw [Bool.true_and] at yes no
      refine x_if_eq 59 dX5_fitsAt_20 (by decide) (fun hc => absurd hc (by decide)) (fun _ => ?_)
      refine x_aload_n (i := 0) dX5_fitsAt_23 rfl rfl ?_
      refine x_get flX5_7 dX5_fitsAt_24 (by first | decide | assumption) (by first | assumption | exact x_up_s | (refine (x_up_n (by first | decide | assumption)).trans ?_; first | assumption | exact x_up_s | (refine (x_up_n (by first | decide | assumption)).trans ?_; first | assumption | exact x_up_s | (refine (x_up_n (by first | decide | assumption)).trans ?_; first | assumption | exact x_up_s | (refine (x_up_n (by first | decide | assumption)).trans ?_; first | assumption | exact x_up_s | (refine (x_up_n (by first | decide | assumption)).trans ?_; first | assumption | exact x_up_s | (refine (x_up_n (by first | decide | assumption)).trans ?_; first | assumption | exact x_up_s | (refine (x_up_n (by first | decide | assumption)).trans ?_; first | assumption | exact x_up_s | (refine (x_up_n (by first | decide | assumption)).trans ?_; first | assumption | exact x_up_s | (refine (x_up_n (by first | decide | assumption)).trans ?_; first | assumption | exact x_up_s | (refine (x_up_n (by first | decide | assumption)).trans ?_; first | assumption | exact x_up_s | (refine (x_up_n (by first | decide | assumption)).trans ?_; first | assumption | exact x_up_s | (refine (x_up_n (by first | decide | assumption)).trans ?_; first | assumption | exact x_up_s | (refine (x_up_n (by first | decide | assumption)).trans ?_; first | assumption | exact x_up_s)))))))))))))) rfl ?_
      refine x_iload dX5_fitsAt_27 rfl ?_
      refine x_iald k dX5_fitsAt_29 (by first | decide | assumption) (by first | assumption | exact x_up_s | (refine (x_up_n (by first | decide | assumption)).trans ?_; first | assumption | exact x_up_s | (refine (x_up_n (by first | decide | assumption)).trans ?_; first | assumption | exact x_up_s | (refine (x_up_n (by first | decide | assumption)).trans ?_; first | assumption | exact x_up_s | (refine (x_up_n (by first | decide | assumption)).trans ?_; first | assumption | exact x_up_s | (refine (x_up_n (by first | decide | assumption)).trans ?_; first | assumption | exact x_up_s | (refine (x_up_n (by first | decide | assumption)).trans ?_; first | assumption | exact x_up_s | (refine (x_up_n (by first | decide | assumption)).trans ?_; first | assumption | exact x_up_s | (refine (x_up_n (by first | decide | assumption)).trans ?_; first | assumption | exact x_up_s | (refine (x_up_n (by first | decide | assumption)).trans ?_; first | assumption | exact x_up_s | (refine (x_up_n (by first | decide | assumption)).trans ?_; first | assumption | exact x_up_s | (refine (x_up_n (by first | decide | assumption)).trans ?_; first | assumption | exact x_up_s | (refine (x_up_n (by first | decide | assumption)).trans ?_; first | assumption | exact x_up_s | (refine (x_up_n (by first | decide | assumption)).trans ?_; first | assumption | exact x_up_s)))))))))))))) rfl (by omega) (by decide) ?_
      refine x_iload_n (i := 1) dX5_fitsAt_30 rfl rfl ?_
      unfold sgK at yes no
      by_cases hb : T.2.2.2.1 k = bh
      · have e1 : (T.2.2.2.1 k == bh) = true := by rw [hb]; simp
        rw [e1, Bool.not_true, Bool.false_or] at yes no
        refine x_icmp_ne 55 dX5_fitsAt_31 (by decide) (fun hc => absurd (by rw [hb]) hc) (fun _ => ?_)
        refine x_iload_n (i := 2) dX5_fitsAt_34 rfl rfl ?_
        refine x_aload_n (i := 0) dX5_fitsAt_35 rfl rfl ?_
        refine x_get flX5_13 dX5_fitsAt_36 (by first | decide | assumption) (by first | assumption | exact x_up_s | (refine (x_up_n (by first | decide | assumption)).trans ?_; first | assumption | exact x_up_s | (refine (x_up_n (by first | decide | assumption)).trans ?_; first | assumption | exact x_up_s | (refine (x_up_n (by first | decide | assumption)).trans ?_; first | assumption | exact x_up_s | (refine (x_up_n (by first | decide | assumption)).trans ?_; first | assumption | exact x_up_s | (refine (x_up_n (by first | decide | assumption)).trans ?_; first | assumption | exact x_up_s | (refine (x_up_n (by first | decide | assumption)).trans ?_; first | assumption | exact x_up_s | (refine (x_up_n (by first | decide | assumption)).trans ?_; first | assumption | exact x_up_s | (refine (x_up_n (by first | decide | assumption)).trans ?_; first | assumption | exact x_up_s | (refine (x_up_n (by first | decide | assumption)).trans ?_; first | assumption | exact x_up_s | (refine (x_up_n (by first | decide | assumption)).trans ?_; first | assumption | exact x_up_s | (refine (x_up_n (by first | decide | assumption)).trans ?_; first | assumption | exact x_up_s | (refine (x_up_n (by first | decide | assumption)).trans ?_; first | assumption | exact x_up_s | (refine (x_up_n (by first | decide | assumption)).trans ?_; first | assumption | exact x_up_s)))))))))))))) rfl ?_
        refine x_iload dX5_fitsAt_39 rfl ?_
        refine x_iald k dX5_fitsAt_41 (by first | decide | assumption) (by first | assumption | exact x_up_s | (refine (x_up_n (by first | decide | assumption)).trans ?_; first | assumption | exact x_up_s | (refine (x_up_n (by first | decide | assumption)).trans ?_; first | assumption | exact x_up_s | (refine (x_up_n (by first | decide | assumption)).trans ?_; first | assumption | exact x_up_s | (refine (x_up_n (by first | decide | assumption)).trans ?_; first | assumption | exact x_up_s | (refine (x_up_n (by first | decide | assumption)).trans ?_; first | assumption | exact x_up_s | (refine (x_up_n (by first | decide | assumption)).trans ?_; first | assumption | exact x_up_s | (refine (x_up_n (by first | decide | assumption)).trans ?_; first | assumption | exact x_up_s | (refine (x_up_n (by first | decide | assumption)).trans ?_; first | assumption | exact x_up_s | (refine (x_up_n (by first | decide | assumption)).trans ?_; first | assumption | exact x_up_s | (refine (x_up_n (by first | decide | assumption)).trans ?_; first | assumption | exact x_up_s | (refine (x_up_n (by first | decide | assumption)).trans ?_; first | assumption | exact x_up_s | (refine (x_up_n (by first | decide | assumption)).trans ?_; first | assumption | exact x_up_s | (refine (x_up_n (by first | decide | assumption)).trans ?_; first | assumption | exact x_up_s)))))))))))))) rfl (by omega) (by decide) ?_
        refine x_ishr dX5_fitsAt_42 ?_
        refine x_iconst (v := 1) dX5_fitsAt_43 (by decide) ?_
        refine x_iand dX5_fitsAt_44 ?_
        refine x_topi (n_shr_s (by omega) (by omega)) ?_
        refine x_aload_n (i := 0) dX5_fitsAt_45 rfl rfl ?_
        refine x_get flX5_16 dX5_fitsAt_46 (by first | decide | assumption) (by first | assumption | exact x_up_s | (refine (x_up_n (by first | decide | assumption)).trans ?_; first | assumption | exact x_up_s | (refine (x_up_n (by first | decide | assumption)).trans ?_; first | assumption | exact x_up_s | (refine (x_up_n (by first | decide | assumption)).trans ?_; first | assumption | exact x_up_s | (refine (x_up_n (by first | decide | assumption)).trans ?_; first | assumption | exact x_up_s | (refine (x_up_n (by first | decide | assumption)).trans ?_; first | assumption | exact x_up_s | (refine (x_up_n (by first | decide | assumption)).trans ?_; first | assumption | exact x_up_s | (refine (x_up_n (by first | decide | assumption)).trans ?_; first | assumption | exact x_up_s | (refine (x_up_n (by first | decide | assumption)).trans ?_; first | assumption | exact x_up_s | (refine (x_up_n (by first | decide | assumption)).trans ?_; first | assumption | exact x_up_s | (refine (x_up_n (by first | decide | assumption)).trans ?_; first | assumption | exact x_up_s | (refine (x_up_n (by first | decide | assumption)).trans ?_; first | assumption | exact x_up_s | (refine (x_up_n (by first | decide | assumption)).trans ?_; first | assumption | exact x_up_s | (refine (x_up_n (by first | decide | assumption)).trans ?_; first | assumption | exact x_up_s)))))))))))))) rfl ?_
        refine x_iload dX5_fitsAt_49 rfl ?_
        refine x_iald k dX5_fitsAt_51 (by first | decide | assumption) (by first | assumption | exact x_up_s | (refine (x_up_n (by first | decide | assumption)).trans ?_; first | assumption | exact x_up_s | (refine (x_up_n (by first | decide | assumption)).trans ?_; first | assumption | exact x_up_s | (refine (x_up_n (by first | decide | assumption)).trans ?_; first | assumption | exact x_up_s | (refine (x_up_n (by first | decide | assumption)).trans ?_; first | assumption | exact x_up_s | (refine (x_up_n (by first | decide | assumption)).trans ?_; first | assumption | exact x_up_s | (refine (x_up_n (by first | decide | assumption)).trans ?_; first | assumption | exact x_up_s | (refine (x_up_n (by first | decide | assumption)).trans ?_; first | assumption | exact x_up_s | (refine (x_up_n (by first | decide | assumption)).trans ?_; first | assumption | exact x_up_s | (refine (x_up_n (by first | decide | assumption)).trans ?_; first | assumption | exact x_up_s | (refine (x_up_n (by first | decide | assumption)).trans ?_; first | assumption | exact x_up_s | (refine (x_up_n (by first | decide | assumption)).trans ?_; first | assumption | exact x_up_s | (refine (x_up_n (by first | decide | assumption)).trans ?_; first | assumption | exact x_up_s | (refine (x_up_n (by first | decide | assumption)).trans ?_; first | assumption | exact x_up_s)))))))))))))) rfl (by omega) (by decide) ?_
        cases ht : now.testBit (T.2.2.2.2.1 k) with
        | true =>
          rw [ht] at yes no
          by_cases h1 : T.2.2.2.2.2 k = 1
          · have : (true == (T.2.2.2.2.2 k == 1)) = true := by rw [h1]; rfl
            rw [h1]
            refine x_icmp_ne 59 dX5_fitsAt_52 (by decide) (fun hc => absurd (rfl) hc) (fun _ => ?_)
            exact x_wk (yes this) ⟨rfl, rfl, rfl, rfl, rfl, trivial⟩
          · have h0 : T.2.2.2.2.2 k = 0 := by omega
            have : (true == (T.2.2.2.2.2 k == 1)) = false := by rw [h0]; rfl
            rw [h0]
            refine x_icmp_ne 59 dX5_fitsAt_52 (by decide) (fun _ => ?_) (fun hc => absurd hc (by decide))
            exact x_wk (no this) ⟨rfl, rfl, rfl, rfl, rfl, trivial⟩
        | false =>
          rw [ht] at yes no
          by_cases h1 : T.2.2.2.2.2 k = 1
          · have : (false == (T.2.2.2.2.2 k == 1)) = false := by rw [h1]; rfl
            rw [h1]
            refine x_icmp_ne 59 dX5_fitsAt_52 (by decide) (fun _ => ?_) (fun hc => absurd hc (by decide))
            exact x_wk (no this) ⟨rfl, rfl, rfl, rfl, rfl, trivial⟩
          · have h0 : T.2.2.2.2.2 k = 0 := by omega
            have : (false == (T.2.2.2.2.2 k == 1)) = true := by rw [h0]; rfl
            rw [h0]
            refine x_icmp_ne 59 dX5_fitsAt_52 (by decide) (fun hc => absurd (rfl) hc) (fun _ => ?_)
            exact x_wk (yes this) ⟨rfl, rfl, rfl, rfl, rfl, trivial⟩
      · have e1 : (T.2.2.2.1 k == bh) = false := by rw [beq_eq_false_iff_ne]; exact hb
        rw [e1, Bool.not_false, Bool.true_or] at yes
        refine x_icmp_ne 55 dX5_fitsAt_31 (by decide) (fun _ => ?_) (fun hc => absurd hc (fun q => hb (nI_inj (by omega) hbh q)))
        exact x_wk (yes rfl) ⟨rfl, rfl, rfl, rfl, rfl, trivial⟩
set_option maxRecDepth 100000 in
set_option maxHeartbeats 4000000 in
theorem cM_fitsAt (d : Nat) (h : x_H) {sz ru pm pl lw ev bp bi nw ka iw : Int32} {T : Sg} (ok : okSg T) {m : Nat} {nf : Nat → Nat} (wf : Nat → Nat) (hM : h 30 = x_md sz ru (nI T.2.2.1) pm (nI m) pl lw ev bp bi nw ka iw) (t1 : h 31 = x_na 6 T.2.2.2.1) (t2 : h 32 = x_na 6 T.2.2.2.2.1) (t3 : h 33 = x_na 6 T.2.2.2.2.2) (hN : h 35 = x_na 11 nf) (hm : m ≤ 11) (hnf : ∀ j, nf j < 2 ^ 31) (bh : Nat) (hbh : bh < 2 ^ 31) :
    x_Ct (d + 1) mX5_fitsAt [.ref 30, .int (nI bh)] h (fun r h' => r = some (.int (b2I (fitB T (ppl (lst m nf wf)) bh))) ∧ h' = h) := by
  refine x_enter pnX5_fitsAt (Nat.le_of_ble_eq_true rfl) ?_
  refine x_aload_n (i := 0) dX5_fitsAt_0 rfl rfl ?_
  refine x_invV clX5_130 dX5_fitsAt_1 (cM_names d h wf hM hN hm hnf) (by omega) rfl (by first | decide | assumption) (by first | assumption | exact x_up_s | (refine (x_up_n (by first | decide | assumption)).trans ?_; first | assumption | exact x_up_s | (refine (x_up_n (by first | decide | assumption)).trans ?_; first | assumption | exact x_up_s | (refine (x_up_n (by first | decide | assumption)).trans ?_; first | assumption | exact x_up_s | (refine (x_up_n (by first | decide | assumption)).trans ?_; first | assumption | exact x_up_s | (refine (x_up_n (by first | decide | assumption)).trans ?_; first | assumption | exact x_up_s | (refine (x_up_n (by first | decide | assumption)).trans ?_; first | assumption | exact x_up_s | (refine (x_up_n (by first | decide | assumption)).trans ?_; first | assumption | exact x_up_s | (refine (x_up_n (by first | decide | assumption)).trans ?_; first | assumption | exact x_up_s | (refine (x_up_n (by first | decide | assumption)).trans ?_; first | assumption | exact x_up_s | (refine (x_up_n (by first | decide | assumption)).trans ?_; first | assumption | exact x_up_s | (refine (x_up_n (by first | decide | assumption)).trans ?_; first | assumption | exact x_up_s | (refine (x_up_n (by first | decide | assumption)).trans ?_; first | assumption | exact x_up_s | (refine (x_up_n (by first | decide | assumption)).trans ?_; first | assumption | exact x_up_s)))))))))))))) rfl (Nat.le_of_ble_eq_true rfl) ?_
  rintro r h' ⟨rfl, rfl⟩
  refine x_istore_n (i := 2) dX5_fitsAt_4 rfl (by decide) ?_
  refine x_iconst (v := 1) dX5_fitsAt_5 (by decide) ?_
  refine x_istore_n (i := 3) dX5_fitsAt_6 rfl (by decide) ?_
  refine x_iconst (v := 0) dX5_fitsAt_7 (by decide) ?_
  refine x_istore dX5_fitsAt_8 (by decide) ?_
  exact x_wk (cM_fitsAt_loop (d + 1) h' ok hM t1 t2 t3 (ppl (lst m nf wf)) bh (ppl_lt _) hbh _ T.2.2.1 0 true (by omega) ⟨rfl, rfl⟩) ⟨rfl, rfl, rfl, rfl, rfl, trivial⟩
/-- the day with a number's digits for what isn't told, from the back -/
def hdN (cs : Nat → Nat) : Nat → Nat → (Nat → Nat) → (Nat → Nat)
  | 0, _, dv => dv
  | k + 1, left, dv => if cs k = 63 then hdN cs k (left / 8) (csU dv k (left % 8)) else hdN cs k left dv
def dvH (n : Nat) (cs : Nat → Nat) (num : Nat) : Nat → Nat := hdN cs n num (dvF cs)
def okH (k n : Nat) (cs : Nat → Nat) (g : Nat → Int32) (dv : Nat → Nat) : Prop := ∀ i, i < n → (k ≤ i ∨ cs i ≠ 63) → g i = nI (dv i) ∧ (dv i < 8 ∨ (16 ≤ dv i ∧ dv i < 24))
set_option maxRecDepth 100000 in
set_option maxHeartbeats 4000000 in
theorem cM_fill_loop (d : Nat) (h : x_H) {sz ru si pm my pl lw ev bp bi nw ka iw : Int32} {cs : Nat → Nat} (hM : h 30 = x_md sz ru si pm my pl lw ev bp bi nw ka iw) (hG : h 34 = x_sg cs) (hcs : ∀ j, cs j < 127) (n : Nat) (hn : n ≤ 40) (i1 : Int32) (dv9 : Nat → Nat) (Q : Option Value → x_H → Prop)
    (K : ∀ g, okH 0 n cs g dv9 → x_V d mX5_holds 49 (x_ls [some (.ref 30)]) [] (x_up h 37 (x_ia 41 g)) Q) :
    ∀ (k left : Nat) (g : Nat → Int32) (dv : Nat → Nat), k ≤ n → left < 2 ^ 31 → hdN cs k left dv = dv9 → okH k n cs g dv → x_V d mX5_holds 13 (x_ls [some (.ref 30), some (.int i1), some (.int (nI left)), some (.int (nI k - 1))]) [] (x_up h 37 (x_ia 41 g)) Q := by
  intro k
  induction k with
  | zero =>
    intro left g dv hk hleft hdv hok
    unfold hdN at hdv
    subst hdv
    refine x_iload_n (i := 3) dX5_holds_13 rfl rfl ?_
    refine x_if_lt 49 dX5_holds_14 (by decide) (fun _ => ?_) (fun hc => absurd (by decide) hc)
    exact x_wk (K g hok) ⟨rfl, trivial⟩
  | succ k ih =>
    intro left g dv hk hleft hdv hok
    have e1 : nI (k + 1) - 1 = nI k := nI_s1 k
    have hck := hcs k
    unfold hdN at hdv
    rw [e1]
    refine x_iload_n (i := 3) dX5_holds_13 rfl rfl ?_
    refine x_if_lt 49 dX5_holds_14 (by decide) (fun hc => absurd hc (nI_pos (by omega))) (fun _ => ?_)
    refine x_aload_n (i := 0) dX5_holds_17 rfl rfl ?_
    refine x_get flX5_19 dX5_holds_18 (by first | decide | assumption) (by first | assumption | exact x_up_s | (refine (x_up_n (by first | decide | assumption)).trans ?_; first | assumption | exact x_up_s | (refine (x_up_n (by first | decide | assumption)).trans ?_; first | assumption | exact x_up_s | (refine (x_up_n (by first | decide | assumption)).trans ?_; first | assumption | exact x_up_s | (refine (x_up_n (by first | decide | assumption)).trans ?_; first | assumption | exact x_up_s | (refine (x_up_n (by first | decide | assumption)).trans ?_; first | assumption | exact x_up_s | (refine (x_up_n (by first | decide | assumption)).trans ?_; first | assumption | exact x_up_s | (refine (x_up_n (by first | decide | assumption)).trans ?_; first | assumption | exact x_up_s | (refine (x_up_n (by first | decide | assumption)).trans ?_; first | assumption | exact x_up_s | (refine (x_up_n (by first | decide | assumption)).trans ?_; first | assumption | exact x_up_s | (refine (x_up_n (by first | decide | assumption)).trans ?_; first | assumption | exact x_up_s | (refine (x_up_n (by first | decide | assumption)).trans ?_; first | assumption | exact x_up_s | (refine (x_up_n (by first | decide | assumption)).trans ?_; first | assumption | exact x_up_s | (refine (x_up_n (by first | decide | assumption)).trans ?_; first | assumption | exact x_up_s)))))))))))))) rfl ?_
    refine x_iload_n (i := 3) dX5_holds_21 rfl rfl ?_
    refine x_iald k dX5_holds_22 (by first | decide | assumption) (by first | assumption | exact x_up_s | (refine (x_up_n (by first | decide | assumption)).trans ?_; first | assumption | exact x_up_s | (refine (x_up_n (by first | decide | assumption)).trans ?_; first | assumption | exact x_up_s | (refine (x_up_n (by first | decide | assumption)).trans ?_; first | assumption | exact x_up_s | (refine (x_up_n (by first | decide | assumption)).trans ?_; first | assumption | exact x_up_s | (refine (x_up_n (by first | decide | assumption)).trans ?_; first | assumption | exact x_up_s | (refine (x_up_n (by first | decide | assumption)).trans ?_; first | assumption | exact x_up_s | (refine (x_up_n (by first | decide | assumption)).trans ?_; first | assumption | exact x_up_s | (refine (x_up_n (by first | decide | assumption)).trans ?_; first | assumption | exact x_up_s | (refine (x_up_n (by first | decide | assumption)).trans ?_; first | assumption | exact x_up_s | (refine (x_up_n (by first | decide | assumption)).trans ?_; first | assumption | exact x_up_s | (refine (x_up_n (by first | decide | assumption)).trans ?_; first | assumption | exact x_up_s | (refine (x_up_n (by first | decide | assumption)).trans ?_; first | assumption | exact x_up_s | (refine (x_up_n (by first | decide | assumption)).trans ?_; first | assumption | exact x_up_s)))))))))))))) rfl (by omega) (by decide) ?_
    refine x_bipush (v := 63) dX5_holds_23 (by decide) ?_
    by_cases h63 : cs k = 63
    · rw [if_pos h63] at hdv
      refine x_icmp_ne 43 dX5_holds_25 (by decide) (fun hc => absurd (by rw [h63]; rfl) hc) (fun _ => ?_)
      refine x_aload_n (i := 0) dX5_holds_28 rfl rfl ?_
      refine x_get flX5_28 dX5_holds_29 (by first | decide | assumption) (by first | assumption | exact x_up_s | (refine (x_up_n (by first | decide | assumption)).trans ?_; first | assumption | exact x_up_s | (refine (x_up_n (by first | decide | assumption)).trans ?_; first | assumption | exact x_up_s | (refine (x_up_n (by first | decide | assumption)).trans ?_; first | assumption | exact x_up_s | (refine (x_up_n (by first | decide | assumption)).trans ?_; first | assumption | exact x_up_s | (refine (x_up_n (by first | decide | assumption)).trans ?_; first | assumption | exact x_up_s | (refine (x_up_n (by first | decide | assumption)).trans ?_; first | assumption | exact x_up_s | (refine (x_up_n (by first | decide | assumption)).trans ?_; first | assumption | exact x_up_s | (refine (x_up_n (by first | decide | assumption)).trans ?_; first | assumption | exact x_up_s | (refine (x_up_n (by first | decide | assumption)).trans ?_; first | assumption | exact x_up_s | (refine (x_up_n (by first | decide | assumption)).trans ?_; first | assumption | exact x_up_s | (refine (x_up_n (by first | decide | assumption)).trans ?_; first | assumption | exact x_up_s | (refine (x_up_n (by first | decide | assumption)).trans ?_; first | assumption | exact x_up_s | (refine (x_up_n (by first | decide | assumption)).trans ?_; first | assumption | exact x_up_s)))))))))))))) rfl ?_
      refine x_iload_n (i := 3) dX5_holds_32 rfl rfl ?_
      refine x_iload_n (i := 2) dX5_holds_33 rfl rfl ?_
      refine x_bipush (v := 8) dX5_holds_34 (by decide) ?_
      refine x_irem dX5_holds_36 (by decide) ?_
      refine x_topi (n_rem (b := 8) hleft (by decide) (by decide)) ?_
      refine x_iast k dX5_holds_37 (by first | decide | assumption) (by first | assumption | exact x_up_s | (refine (x_up_n (by first | decide | assumption)).trans ?_; first | assumption | exact x_up_s | (refine (x_up_n (by first | decide | assumption)).trans ?_; first | assumption | exact x_up_s | (refine (x_up_n (by first | decide | assumption)).trans ?_; first | assumption | exact x_up_s | (refine (x_up_n (by first | decide | assumption)).trans ?_; first | assumption | exact x_up_s | (refine (x_up_n (by first | decide | assumption)).trans ?_; first | assumption | exact x_up_s | (refine (x_up_n (by first | decide | assumption)).trans ?_; first | assumption | exact x_up_s | (refine (x_up_n (by first | decide | assumption)).trans ?_; first | assumption | exact x_up_s | (refine (x_up_n (by first | decide | assumption)).trans ?_; first | assumption | exact x_up_s | (refine (x_up_n (by first | decide | assumption)).trans ?_; first | assumption | exact x_up_s | (refine (x_up_n (by first | decide | assumption)).trans ?_; first | assumption | exact x_up_s | (refine (x_up_n (by first | decide | assumption)).trans ?_; first | assumption | exact x_up_s | (refine (x_up_n (by first | decide | assumption)).trans ?_; first | assumption | exact x_up_s | (refine (x_up_n (by first | decide | assumption)).trans ?_; first | assumption | exact x_up_s)))))))))))))) rfl (by omega) (by decide) ?_
      refine x_iload_n (i := 2) dX5_holds_38 rfl rfl ?_
      refine x_bipush (v := 8) dX5_holds_39 (by decide) ?_
      refine x_idiv dX5_holds_41 (by decide) ?_
      refine x_topi (y := nI (left / 8)) (pk_div (d := 8) hleft (by decide) (by decide)) ?_
      refine x_istore_n (i := 2) dX5_holds_42 rfl (by decide) ?_
      refine x_dec dX5_holds_43 rfl (by decide) ?_
      refine x_goto 13 dX5_holds_46 (by decide) ?_
      rw [x_up_up]
      refine x_wk (ih (left / 8) _ _ (by omega) (by omega) hdv ?_) ⟨rfl, rfl, rfl, rfl, trivial⟩
      intro i hi hki
      unfold upd csU
      by_cases hik : i = k
      · rw [if_pos hik, if_pos hik]; exact ⟨rfl, by omega⟩
      · rw [if_neg hik, if_neg hik]; exact hok i hi (hki.imp (fun z => by omega) id)
    · rw [if_neg h63] at hdv
      refine x_icmp_ne 43 dX5_holds_25 (by decide) (fun _ => ?_) (fun hc => absurd hc (fun q => h63 (nI_inj (b := 63) (by omega) (by decide) q)))
      refine x_dec dX5_holds_43 rfl (by decide) ?_
      refine x_goto 13 dX5_holds_46 (by decide) ?_
      refine x_wk (ih left g dv (by omega) hleft hdv ?_) ⟨rfl, rfl, rfl, rfl, trivial⟩
      intro i hi hki
      refine hok i hi ?_
      rcases hki with z | z
      · by_cases hik : i = k
        · subst hik; exact Or.inr h63
        · exact Or.inl (by omega)
      · exact Or.inr z
/-- what stood there fits, up to event i -/
def hoN (T : Sg) (dv : Nat → Nat) : Nat → Bool
  | 0 => fitB T (ppl (mR T.2.1 T.1 dv 0)) 0
  | i + 1 => hoN T dv i && fitB T (ppl (mR T.2.1 T.1 dv (i + 1))) (i + 1)
theorem hoN_f {T : Sg} {dv : Nat → Nat} {i : Nat} (h : hoN T dv i = false) : ∀ j, hoN T dv (i + j) = false
  | 0 => h
  | j + 1 => by
    show (hoN T dv (i + j) && _) = false
    rw [hoN_f h j, Bool.false_and]
set_option maxRecDepth 100000 in
set_option maxHeartbeats 4000000 in
theorem cM_holds_loop (d : Nat) (h : x_H) {pm bp bi nw ka iw : Int32} {T : Sg} (ok : okSg T) (t1 : h 31 = x_na 6 T.2.2.2.1) (t2 : h 32 = x_na 6 T.2.2.2.2.1) (t3 : h 33 = x_na 6 T.2.2.2.2.2) {g : Nat → Int32} {dv : Nat → Nat} (hY : h 37 = x_ia 41 g) (e : Nat) (he : e ≤ 41) (hy : okY e g dv) (Q : Option Value → x_H → Prop)
    (hq : ∀ m nf wf, (∀ j, nf j < 1000) → (∀ j, wf j < 64) → Q (some (.int (b2I (hoN T dv e)))) (x_B3 h (x_md (nI T.1) (nI T.2.1) (nI T.2.2.1) pm (nI m) (nI T.1) (nI T.2.1) (nI e) bp bi nw ka iw) nf wf)) :
    ∀ (f i m : Nat) (nf wf : Nat → Nat), i + f = e → lst m nf wf = mR T.2.1 T.1 dv i → (∀ j, nf j < 1000) → (∀ j, wf j < 64) → x_V (d + 2) mX5_holds 62 (x_ls [some (.ref 30), none, none, some (.int (b2I (hoN T dv i))), some (.int (nI i))]) [] (x_B3 h (x_md (nI T.1) (nI T.2.1) (nI T.2.2.1) pm (nI m) (nI T.1) (nI T.2.1) (nI e) bp bi nw ka iw) nf wf) Q := by
  have h9 := ok.2.1
  intro f
  induction f with
  | zero =>
    intro i m nf wf hi hl hnf hwf
    have : i = e := by omega
    subst this
    have hq := hq m nf wf hnf hwf
    unfold x_B3
    refine x_iload dX5_holds_62 rfl ?_
    refine x_aload_n (i := 0) dX5_holds_64 rfl rfl ?_
    refine x_get flX5_110 dX5_holds_65 (by first | decide | assumption) (by first | assumption | exact x_up_s | (refine (x_up_n (by first | decide | assumption)).trans ?_; first | assumption | exact x_up_s | (refine (x_up_n (by first | decide | assumption)).trans ?_; first | assumption | exact x_up_s | (refine (x_up_n (by first | decide | assumption)).trans ?_; first | assumption | exact x_up_s | (refine (x_up_n (by first | decide | assumption)).trans ?_; first | assumption | exact x_up_s | (refine (x_up_n (by first | decide | assumption)).trans ?_; first | assumption | exact x_up_s | (refine (x_up_n (by first | decide | assumption)).trans ?_; first | assumption | exact x_up_s | (refine (x_up_n (by first | decide | assumption)).trans ?_; first | assumption | exact x_up_s | (refine (x_up_n (by first | decide | assumption)).trans ?_; first | assumption | exact x_up_s | (refine (x_up_n (by first | decide | assumption)).trans ?_; first | assumption | exact x_up_s | (refine (x_up_n (by first | decide | assumption)).trans ?_; first | assumption | exact x_up_s | (refine (x_up_n (by first | decide | assumption)).trans ?_; first | assumption | exact x_up_s | (refine (x_up_n (by first | decide | assumption)).trans ?_; first | assumption | exact x_up_s | (refine (x_up_n (by first | decide | assumption)).trans ?_; first | assumption | exact x_up_s)))))))))))))) rfl ?_
    refine x_icmp_ge 115 dX5_holds_68 (by decide) (fun _ => ?_) (fun hc => absurd (nI_le (by omega) (by omega)) hc)
    refine x_iload_n (i := 3) dX5_holds_115 rfl rfl ?_
    cases hh : hoN T dv i with
    | true =>
      rw [hh] at hq
      refine x_zret dX5_holds_116 rfl (by first | rfl | decide | assumption) hq
    | false =>
      rw [hh] at hq
      refine x_zret dX5_holds_116 rfl (by first | rfl | decide | assumption) hq
  | succ f ih =>
    intro i m nf wf hi hl hnf hwf
    have hmL : m ≤ T.1 := by have := mR_len (w := T.2.1) (L := T.1) (dv := dv) i; rw [← hl, lst_len] at this; exact this
    obtain ⟨hg, hdv⟩ := hy i (by omega)
    cases hh : hoN T dv i with
    | false =>
      have hq := hq m nf wf hnf hwf
      have hz := hoN_f hh (e - i)
      rw [show i + (e - i) = e by omega] at hz
      rw [hz] at hq
      unfold x_B3
      refine x_iload dX5_holds_62 rfl ?_
      refine x_aload_n (i := 0) dX5_holds_64 rfl rfl ?_
      refine x_get flX5_110 dX5_holds_65 (by first | decide | assumption) (by first | assumption | exact x_up_s | (refine (x_up_n (by first | decide | assumption)).trans ?_; first | assumption | exact x_up_s | (refine (x_up_n (by first | decide | assumption)).trans ?_; first | assumption | exact x_up_s | (refine (x_up_n (by first | decide | assumption)).trans ?_; first | assumption | exact x_up_s | (refine (x_up_n (by first | decide | assumption)).trans ?_; first | assumption | exact x_up_s | (refine (x_up_n (by first | decide | assumption)).trans ?_; first | assumption | exact x_up_s | (refine (x_up_n (by first | decide | assumption)).trans ?_; first | assumption | exact x_up_s | (refine (x_up_n (by first | decide | assumption)).trans ?_; first | assumption | exact x_up_s | (refine (x_up_n (by first | decide | assumption)).trans ?_; first | assumption | exact x_up_s | (refine (x_up_n (by first | decide | assumption)).trans ?_; first | assumption | exact x_up_s | (refine (x_up_n (by first | decide | assumption)).trans ?_; first | assumption | exact x_up_s | (refine (x_up_n (by first | decide | assumption)).trans ?_; first | assumption | exact x_up_s | (refine (x_up_n (by first | decide | assumption)).trans ?_; first | assumption | exact x_up_s | (refine (x_up_n (by first | decide | assumption)).trans ?_; first | assumption | exact x_up_s)))))))))))))) rfl ?_
      refine x_icmp_ge 115 dX5_holds_68 (by decide) (fun hc => absurd hc (nI_ge (by omega) (by omega))) (fun _ => ?_)
      refine x_iload_n (i := 3) dX5_holds_71 rfl rfl ?_
      refine x_if_eq 115 dX5_holds_72 (by decide) (fun _ => ?_) (fun hc => absurd (rfl) hc)
      refine x_iload_n (i := 3) dX5_holds_115 rfl rfl ?_
      refine x_zret dX5_holds_116 rfl (by first | rfl | decide | assumption) hq
    | true =>
      -- from 100 on
      have next : ∀ (m' : Nat) (nf' wf' : Nat → Nat), lst m' nf' wf' = mR T.2.1 T.1 dv (i + 1) → (∀ j, nf' j < 1000) → (∀ j, wf' j < 64) → x_V (d + 2) mX5_holds 100 (x_ls [some (.ref 30), none, none, some (.int (b2I true)), some (.int (nI i))]) [] (x_B3 h (x_md (nI T.1) (nI T.2.1) (nI T.2.2.1) pm (nI m') (nI T.1) (nI T.2.1) (nI e) bp bi nw ka iw) nf' wf') Q := by
        intro m' nf' wf' a1 a2 a3
        have hm' : m' ≤ T.1 := by have := mR_len (w := T.2.1) (L := T.1) (dv := dv) (i + 1); rw [← a1, lst_len] at this; exact this
        have ih2 := ih (i + 1) m' nf' wf' (by omega) a1 a2 a3
        rw [show hoN T dv (i + 1) = (hoN T dv i && fitB T (ppl (mR T.2.1 T.1 dv (i + 1))) (i + 1)) from rfl, hh, Bool.true_and] at ih2
        unfold x_B3
        refine x_aload_n (i := 0) dX5_holds_100 rfl rfl ?_
        refine x_iload dX5_holds_101 rfl ?_
        refine x_iconst (v := 1) dX5_holds_103 (by decide) ?_
        refine x_iadd dX5_holds_104 ?_
        refine x_topi (nI_1 i) ?_
        refine x_invV clX5_193 dX5_holds_105 (cM_fitsAt d _ ok wf' (m := m') (nf := nf') x_up_s (by first | assumption | exact x_up_s | (refine (x_up_n (by first | decide | assumption)).trans ?_; first | assumption | exact x_up_s | (refine (x_up_n (by first | decide | assumption)).trans ?_; first | assumption | exact x_up_s | (refine (x_up_n (by first | decide | assumption)).trans ?_; first | assumption | exact x_up_s | (refine (x_up_n (by first | decide | assumption)).trans ?_; first | assumption | exact x_up_s | (refine (x_up_n (by first | decide | assumption)).trans ?_; first | assumption | exact x_up_s | (refine (x_up_n (by first | decide | assumption)).trans ?_; first | assumption | exact x_up_s | (refine (x_up_n (by first | decide | assumption)).trans ?_; first | assumption | exact x_up_s | (refine (x_up_n (by first | decide | assumption)).trans ?_; first | assumption | exact x_up_s | (refine (x_up_n (by first | decide | assumption)).trans ?_; first | assumption | exact x_up_s | (refine (x_up_n (by first | decide | assumption)).trans ?_; first | assumption | exact x_up_s | (refine (x_up_n (by first | decide | assumption)).trans ?_; first | assumption | exact x_up_s | (refine (x_up_n (by first | decide | assumption)).trans ?_; first | assumption | exact x_up_s | (refine (x_up_n (by first | decide | assumption)).trans ?_; first | assumption | exact x_up_s)))))))))))))) (by first | assumption | exact x_up_s | (refine (x_up_n (by first | decide | assumption)).trans ?_; first | assumption | exact x_up_s | (refine (x_up_n (by first | decide | assumption)).trans ?_; first | assumption | exact x_up_s | (refine (x_up_n (by first | decide | assumption)).trans ?_; first | assumption | exact x_up_s | (refine (x_up_n (by first | decide | assumption)).trans ?_; first | assumption | exact x_up_s | (refine (x_up_n (by first | decide | assumption)).trans ?_; first | assumption | exact x_up_s | (refine (x_up_n (by first | decide | assumption)).trans ?_; first | assumption | exact x_up_s | (refine (x_up_n (by first | decide | assumption)).trans ?_; first | assumption | exact x_up_s | (refine (x_up_n (by first | decide | assumption)).trans ?_; first | assumption | exact x_up_s | (refine (x_up_n (by first | decide | assumption)).trans ?_; first | assumption | exact x_up_s | (refine (x_up_n (by first | decide | assumption)).trans ?_; first | assumption | exact x_up_s | (refine (x_up_n (by first | decide | assumption)).trans ?_; first | assumption | exact x_up_s | (refine (x_up_n (by first | decide | assumption)).trans ?_; first | assumption | exact x_up_s | (refine (x_up_n (by first | decide | assumption)).trans ?_; first | assumption | exact x_up_s)))))))))))))) (by first | assumption | exact x_up_s | (refine (x_up_n (by first | decide | assumption)).trans ?_; first | assumption | exact x_up_s | (refine (x_up_n (by first | decide | assumption)).trans ?_; first | assumption | exact x_up_s | (refine (x_up_n (by first | decide | assumption)).trans ?_; first | assumption | exact x_up_s | (refine (x_up_n (by first | decide | assumption)).trans ?_; first | assumption | exact x_up_s | (refine (x_up_n (by first | decide | assumption)).trans ?_; first | assumption | exact x_up_s | (refine (x_up_n (by first | decide | assumption)).trans ?_; first | assumption | exact x_up_s | (refine (x_up_n (by first | decide | assumption)).trans ?_; first | assumption | exact x_up_s | (refine (x_up_n (by first | decide | assumption)).trans ?_; first | assumption | exact x_up_s | (refine (x_up_n (by first | decide | assumption)).trans ?_; first | assumption | exact x_up_s | (refine (x_up_n (by first | decide | assumption)).trans ?_; first | assumption | exact x_up_s | (refine (x_up_n (by first | decide | assumption)).trans ?_; first | assumption | exact x_up_s | (refine (x_up_n (by first | decide | assumption)).trans ?_; first | assumption | exact x_up_s | (refine (x_up_n (by first | decide | assumption)).trans ?_; first | assumption | exact x_up_s)))))))))))))) (by first | assumption | exact x_up_s | (refine (x_up_n (by first | decide | assumption)).trans ?_; first | assumption | exact x_up_s | (refine (x_up_n (by first | decide | assumption)).trans ?_; first | assumption | exact x_up_s | (refine (x_up_n (by first | decide | assumption)).trans ?_; first | assumption | exact x_up_s | (refine (x_up_n (by first | decide | assumption)).trans ?_; first | assumption | exact x_up_s | (refine (x_up_n (by first | decide | assumption)).trans ?_; first | assumption | exact x_up_s | (refine (x_up_n (by first | decide | assumption)).trans ?_; first | assumption | exact x_up_s | (refine (x_up_n (by first | decide | assumption)).trans ?_; first | assumption | exact x_up_s | (refine (x_up_n (by first | decide | assumption)).trans ?_; first | assumption | exact x_up_s | (refine (x_up_n (by first | decide | assumption)).trans ?_; first | assumption | exact x_up_s | (refine (x_up_n (by first | decide | assumption)).trans ?_; first | assumption | exact x_up_s | (refine (x_up_n (by first | decide | assumption)).trans ?_; first | assumption | exact x_up_s | (refine (x_up_n (by first | decide | assumption)).trans ?_; first | assumption | exact x_up_s | (refine (x_up_n (by first | decide | assumption)).trans ?_; first | assumption | exact x_up_s)))))))))))))) (by omega) (fun j => by have := a2 j; omega) (i + 1) (by omega)) (by omega) rfl (by first | decide | assumption) (by first | assumption | exact x_up_s | (refine (x_up_n (by first | decide | assumption)).trans ?_; first | assumption | exact x_up_s | (refine (x_up_n (by first | decide | assumption)).trans ?_; first | assumption | exact x_up_s | (refine (x_up_n (by first | decide | assumption)).trans ?_; first | assumption | exact x_up_s | (refine (x_up_n (by first | decide | assumption)).trans ?_; first | assumption | exact x_up_s | (refine (x_up_n (by first | decide | assumption)).trans ?_; first | assumption | exact x_up_s | (refine (x_up_n (by first | decide | assumption)).trans ?_; first | assumption | exact x_up_s | (refine (x_up_n (by first | decide | assumption)).trans ?_; first | assumption | exact x_up_s | (refine (x_up_n (by first | decide | assumption)).trans ?_; first | assumption | exact x_up_s | (refine (x_up_n (by first | decide | assumption)).trans ?_; first | assumption | exact x_up_s | (refine (x_up_n (by first | decide | assumption)).trans ?_; first | assumption | exact x_up_s | (refine (x_up_n (by first | decide | assumption)).trans ?_; first | assumption | exact x_up_s | (refine (x_up_n (by first | decide | assumption)).trans ?_; first | assumption | exact x_up_s | (refine (x_up_n (by first | decide | assumption)).trans ?_; first | assumption | exact x_up_s)))))))))))))) rfl (Nat.le_of_ble_eq_true rfl) ?_
        rintro r h' ⟨rfl, rfl⟩
        rw [a1]
        refine x_istore_n (i := 3) dX5_holds_108 rfl (by decide) ?_
        first | refine x_incN dX5_holds_109 rfl (by decide) ?_ | refine x_iinc dX5_holds_109 rfl rfl (by decide) ?_
        refine x_goto 62 dX5_holds_112 (by decide) ?_
        refine x_hp (h' := x_B3 h (x_md (nI T.1) (nI T.2.1) (nI T.2.2.1) pm (nI m') (nI T.1) (nI T.2.1) (nI e) bp bi nw ka iw) nf' wf') rfl ?_
        exact x_wk ih2 ⟨rfl, rfl, rfl, trivial⟩
      clear ih hq
      unfold x_B3
      refine x_iload dX5_holds_62 rfl ?_
      refine x_aload_n (i := 0) dX5_holds_64 rfl rfl ?_
      refine x_get flX5_110 dX5_holds_65 (by first | decide | assumption) (by first | assumption | exact x_up_s | (refine (x_up_n (by first | decide | assumption)).trans ?_; first | assumption | exact x_up_s | (refine (x_up_n (by first | decide | assumption)).trans ?_; first | assumption | exact x_up_s | (refine (x_up_n (by first | decide | assumption)).trans ?_; first | assumption | exact x_up_s | (refine (x_up_n (by first | decide | assumption)).trans ?_; first | assumption | exact x_up_s | (refine (x_up_n (by first | decide | assumption)).trans ?_; first | assumption | exact x_up_s | (refine (x_up_n (by first | decide | assumption)).trans ?_; first | assumption | exact x_up_s | (refine (x_up_n (by first | decide | assumption)).trans ?_; first | assumption | exact x_up_s | (refine (x_up_n (by first | decide | assumption)).trans ?_; first | assumption | exact x_up_s | (refine (x_up_n (by first | decide | assumption)).trans ?_; first | assumption | exact x_up_s | (refine (x_up_n (by first | decide | assumption)).trans ?_; first | assumption | exact x_up_s | (refine (x_up_n (by first | decide | assumption)).trans ?_; first | assumption | exact x_up_s | (refine (x_up_n (by first | decide | assumption)).trans ?_; first | assumption | exact x_up_s | (refine (x_up_n (by first | decide | assumption)).trans ?_; first | assumption | exact x_up_s)))))))))))))) rfl ?_
      refine x_icmp_ge 115 dX5_holds_68 (by decide) (fun hc => absurd hc (nI_ge (by omega) (by omega))) (fun _ => ?_)
      refine x_iload_n (i := 3) dX5_holds_71 rfl rfl ?_
      refine x_if_eq 115 dX5_holds_72 (by decide) (fun hc => absurd hc (by decide)) (fun _ => ?_)
      refine x_aload_n (i := 0) dX5_holds_75 rfl rfl ?_
      refine x_get flX5_28 dX5_holds_76 (by first | decide | assumption) (by first | assumption | exact x_up_s | (refine (x_up_n (by first | decide | assumption)).trans ?_; first | assumption | exact x_up_s | (refine (x_up_n (by first | decide | assumption)).trans ?_; first | assumption | exact x_up_s | (refine (x_up_n (by first | decide | assumption)).trans ?_; first | assumption | exact x_up_s | (refine (x_up_n (by first | decide | assumption)).trans ?_; first | assumption | exact x_up_s | (refine (x_up_n (by first | decide | assumption)).trans ?_; first | assumption | exact x_up_s | (refine (x_up_n (by first | decide | assumption)).trans ?_; first | assumption | exact x_up_s | (refine (x_up_n (by first | decide | assumption)).trans ?_; first | assumption | exact x_up_s | (refine (x_up_n (by first | decide | assumption)).trans ?_; first | assumption | exact x_up_s | (refine (x_up_n (by first | decide | assumption)).trans ?_; first | assumption | exact x_up_s | (refine (x_up_n (by first | decide | assumption)).trans ?_; first | assumption | exact x_up_s | (refine (x_up_n (by first | decide | assumption)).trans ?_; first | assumption | exact x_up_s | (refine (x_up_n (by first | decide | assumption)).trans ?_; first | assumption | exact x_up_s | (refine (x_up_n (by first | decide | assumption)).trans ?_; first | assumption | exact x_up_s)))))))))))))) rfl ?_
      refine x_iload dX5_holds_79 rfl ?_
      refine x_iald i dX5_holds_81 (by first | decide | assumption) (by first | assumption | exact x_up_s | (refine (x_up_n (by first | decide | assumption)).trans ?_; first | assumption | exact x_up_s | (refine (x_up_n (by first | decide | assumption)).trans ?_; first | assumption | exact x_up_s | (refine (x_up_n (by first | decide | assumption)).trans ?_; first | assumption | exact x_up_s | (refine (x_up_n (by first | decide | assumption)).trans ?_; first | assumption | exact x_up_s | (refine (x_up_n (by first | decide | assumption)).trans ?_; first | assumption | exact x_up_s | (refine (x_up_n (by first | decide | assumption)).trans ?_; first | assumption | exact x_up_s | (refine (x_up_n (by first | decide | assumption)).trans ?_; first | assumption | exact x_up_s | (refine (x_up_n (by first | decide | assumption)).trans ?_; first | assumption | exact x_up_s | (refine (x_up_n (by first | decide | assumption)).trans ?_; first | assumption | exact x_up_s | (refine (x_up_n (by first | decide | assumption)).trans ?_; first | assumption | exact x_up_s | (refine (x_up_n (by first | decide | assumption)).trans ?_; first | assumption | exact x_up_s | (refine (x_up_n (by first | decide | assumption)).trans ?_; first | assumption | exact x_up_s | (refine (x_up_n (by first | decide | assumption)).trans ?_; first | assumption | exact x_up_s)))))))))))))) rfl (by omega) (by decide) ?_
      rw [hg]
      refine x_bipush (v := 16) dX5_holds_82 (by decide) ?_
      by_cases h16 : dv i < 16
      · have h8 : dv i < 8 := by omega
        refine x_icmp_ge 100 dX5_holds_84 (by decide) (fun hc => absurd hc (nI_ge (b := 16) h16 (by decide))) (fun _ => ?_)
        refine x_aload_n (i := 0) dX5_holds_87 rfl rfl ?_
        refine x_aload_n (i := 0) dX5_holds_88 rfl rfl ?_
        refine x_get flX5_28 dX5_holds_89 (by first | decide | assumption) (by first | assumption | exact x_up_s | (refine (x_up_n (by first | decide | assumption)).trans ?_; first | assumption | exact x_up_s | (refine (x_up_n (by first | decide | assumption)).trans ?_; first | assumption | exact x_up_s | (refine (x_up_n (by first | decide | assumption)).trans ?_; first | assumption | exact x_up_s | (refine (x_up_n (by first | decide | assumption)).trans ?_; first | assumption | exact x_up_s | (refine (x_up_n (by first | decide | assumption)).trans ?_; first | assumption | exact x_up_s | (refine (x_up_n (by first | decide | assumption)).trans ?_; first | assumption | exact x_up_s | (refine (x_up_n (by first | decide | assumption)).trans ?_; first | assumption | exact x_up_s | (refine (x_up_n (by first | decide | assumption)).trans ?_; first | assumption | exact x_up_s | (refine (x_up_n (by first | decide | assumption)).trans ?_; first | assumption | exact x_up_s | (refine (x_up_n (by first | decide | assumption)).trans ?_; first | assumption | exact x_up_s | (refine (x_up_n (by first | decide | assumption)).trans ?_; first | assumption | exact x_up_s | (refine (x_up_n (by first | decide | assumption)).trans ?_; first | assumption | exact x_up_s | (refine (x_up_n (by first | decide | assumption)).trans ?_; first | assumption | exact x_up_s)))))))))))))) rfl ?_
        refine x_iload dX5_holds_92 rfl ?_
        refine x_iald i dX5_holds_94 (by first | decide | assumption) (by first | assumption | exact x_up_s | (refine (x_up_n (by first | decide | assumption)).trans ?_; first | assumption | exact x_up_s | (refine (x_up_n (by first | decide | assumption)).trans ?_; first | assumption | exact x_up_s | (refine (x_up_n (by first | decide | assumption)).trans ?_; first | assumption | exact x_up_s | (refine (x_up_n (by first | decide | assumption)).trans ?_; first | assumption | exact x_up_s | (refine (x_up_n (by first | decide | assumption)).trans ?_; first | assumption | exact x_up_s | (refine (x_up_n (by first | decide | assumption)).trans ?_; first | assumption | exact x_up_s | (refine (x_up_n (by first | decide | assumption)).trans ?_; first | assumption | exact x_up_s | (refine (x_up_n (by first | decide | assumption)).trans ?_; first | assumption | exact x_up_s | (refine (x_up_n (by first | decide | assumption)).trans ?_; first | assumption | exact x_up_s | (refine (x_up_n (by first | decide | assumption)).trans ?_; first | assumption | exact x_up_s | (refine (x_up_n (by first | decide | assumption)).trans ?_; first | assumption | exact x_up_s | (refine (x_up_n (by first | decide | assumption)).trans ?_; first | assumption | exact x_up_s | (refine (x_up_n (by first | decide | assumption)).trans ?_; first | assumption | exact x_up_s)))))))))))))) rfl (by omega) (by decide) ?_
        rw [hg]
        refine x_iload dX5_holds_95 rfl ?_
        refine x_invV clX5_119 dX5_holds_97 (cM_write d _ x_up_s (nf := nf) (wf := wf) (by first | assumption | exact x_up_s | (refine (x_up_n (by first | decide | assumption)).trans ?_; first | assumption | exact x_up_s | (refine (x_up_n (by first | decide | assumption)).trans ?_; first | assumption | exact x_up_s | (refine (x_up_n (by first | decide | assumption)).trans ?_; first | assumption | exact x_up_s | (refine (x_up_n (by first | decide | assumption)).trans ?_; first | assumption | exact x_up_s | (refine (x_up_n (by first | decide | assumption)).trans ?_; first | assumption | exact x_up_s | (refine (x_up_n (by first | decide | assumption)).trans ?_; first | assumption | exact x_up_s | (refine (x_up_n (by first | decide | assumption)).trans ?_; first | assumption | exact x_up_s | (refine (x_up_n (by first | decide | assumption)).trans ?_; first | assumption | exact x_up_s | (refine (x_up_n (by first | decide | assumption)).trans ?_; first | assumption | exact x_up_s | (refine (x_up_n (by first | decide | assumption)).trans ?_; first | assumption | exact x_up_s | (refine (x_up_n (by first | decide | assumption)).trans ?_; first | assumption | exact x_up_s | (refine (x_up_n (by first | decide | assumption)).trans ?_; first | assumption | exact x_up_s | (refine (x_up_n (by first | decide | assumption)).trans ?_; first | assumption | exact x_up_s)))))))))))))) (by first | assumption | exact x_up_s | (refine (x_up_n (by first | decide | assumption)).trans ?_; first | assumption | exact x_up_s | (refine (x_up_n (by first | decide | assumption)).trans ?_; first | assumption | exact x_up_s | (refine (x_up_n (by first | decide | assumption)).trans ?_; first | assumption | exact x_up_s | (refine (x_up_n (by first | decide | assumption)).trans ?_; first | assumption | exact x_up_s | (refine (x_up_n (by first | decide | assumption)).trans ?_; first | assumption | exact x_up_s | (refine (x_up_n (by first | decide | assumption)).trans ?_; first | assumption | exact x_up_s | (refine (x_up_n (by first | decide | assumption)).trans ?_; first | assumption | exact x_up_s | (refine (x_up_n (by first | decide | assumption)).trans ?_; first | assumption | exact x_up_s | (refine (x_up_n (by first | decide | assumption)).trans ?_; first | assumption | exact x_up_s | (refine (x_up_n (by first | decide | assumption)).trans ?_; first | assumption | exact x_up_s | (refine (x_up_n (by first | decide | assumption)).trans ?_; first | assumption | exact x_up_s | (refine (x_up_n (by first | decide | assumption)).trans ?_; first | assumption | exact x_up_s | (refine (x_up_n (by first | decide | assumption)).trans ?_; first | assumption | exact x_up_s)))))))))))))) hmL ok.1 ok.2.1 ok.2.2.1 (by decide : 1000 ≤ 2 ^ 31) hnf hwf (dv i) i (by omega) (by omega)) (by omega) rfl (by first | decide | assumption) (by first | assumption | exact x_up_s | (refine (x_up_n (by first | decide | assumption)).trans ?_; first | assumption | exact x_up_s | (refine (x_up_n (by first | decide | assumption)).trans ?_; first | assumption | exact x_up_s | (refine (x_up_n (by first | decide | assumption)).trans ?_; first | assumption | exact x_up_s | (refine (x_up_n (by first | decide | assumption)).trans ?_; first | assumption | exact x_up_s | (refine (x_up_n (by first | decide | assumption)).trans ?_; first | assumption | exact x_up_s | (refine (x_up_n (by first | decide | assumption)).trans ?_; first | assumption | exact x_up_s | (refine (x_up_n (by first | decide | assumption)).trans ?_; first | assumption | exact x_up_s | (refine (x_up_n (by first | decide | assumption)).trans ?_; first | assumption | exact x_up_s | (refine (x_up_n (by first | decide | assumption)).trans ?_; first | assumption | exact x_up_s | (refine (x_up_n (by first | decide | assumption)).trans ?_; first | assumption | exact x_up_s | (refine (x_up_n (by first | decide | assumption)).trans ?_; first | assumption | exact x_up_s | (refine (x_up_n (by first | decide | assumption)).trans ?_; first | assumption | exact x_up_s | (refine (x_up_n (by first | decide | assumption)).trans ?_; first | assumption | exact x_up_s)))))))))))))) rfl (Nat.le_of_ble_eq_true rfl) ?_
        rintro r h' ⟨rfl, m', nf', wf', rfl, hl', hnf', hwf'⟩
        refine x_hp (h' := x_B3 h (x_md (nI T.1) (nI T.2.1) (nI T.2.2.1) pm (nI m') (nI T.1) (nI T.2.1) (nI e) bp bi nw ka iw) nf' wf') (by unfold x_B3; exact (by funext j9; simp only [x_up]; (repeat' split) <;> first | rfl | omega | simp_all)) ?_
        exact x_wk (next m' nf' wf' (by rw [hl', hl, mR_s, mst, if_pos h16]) hnf' hwf') ⟨rfl, rfl, rfl, trivial⟩
      · refine x_icmp_ge 100 dX5_holds_84 (by decide) (fun _ => ?_) (fun hc => absurd (nI_le (a := 16) (by omega) (by omega)) hc)
        refine x_hp (h' := x_B3 h (x_md (nI T.1) (nI T.2.1) (nI T.2.2.1) pm (nI m) (nI T.1) (nI T.2.1) (nI e) bp bi nw ka iw) nf wf) rfl ?_
        exact x_wk (next m nf wf (by rw [hl, mR_s, mst, if_neg h16]) hnf hwf) ⟨rfl, rfl, rfl, trivial⟩
