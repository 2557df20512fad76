theorem x_dec {d : Nat} {M : x_M} {pc : Nat} {ls : x_L} {st : List Value} {h : x_H} {Q : Option Value → x_H → Prop} {i : Nat} {x : Int32} (hd : decode M.2.1 pc = .ok (.iinc i (-1), 3)) (hl : ls i = some (.int x)) (hn : i < M.2.2.1) (k : x_V d M (pc + 3) (x_s1 ls i (.int (x - 1))) st h Q) : x_V d M pc ls st h Q := x_iinc hd hl (by rw [Int32.sub_eq_add_neg]; rfl) hn k
theorem zer_s (k : Nat) (f : Nat → Nat) : csU (mixN k (fun _ => 0) f) k 0 = mixN (k + 1) (fun _ => 0) f := mixN_s k (fun _ => 0) f
theorem upd_0 (f : Nat → Nat) (k : Nat) : upd (fun j => nI (f j)) k 0 = fun j => nI (csU f k 0 j) := csU_upd f k 0
set_option maxRecDepth 100000 in
set_option maxHeartbeats 4000000 in
theorem cR_spread_z (d : Nat) (h : x_H) {fr wy ak ls : Int32} (hR : h 10 = x_sr fr wy ak ls) (Q : Option Value → x_H → Prop) (W U : Nat → Nat) (K : x_V d mX2_spreadSights 28 (x_ls [some (.ref 10), some (.ref 1), some (.ref 3)]) [] (x_up (x_up h 17 (x_na 41 (zer W))) 18 (x_na 41 (zer U))) Q) :
    ∀ (r k : Nat), k + r = 41 → x_V d mX2_spreadSights 2 (x_ls [some (.ref 10), some (.ref 1), some (.ref 3), some (.int (nI k))]) [] (x_up (x_up h 17 (x_na 41 (mixN k (fun _ => 0) W))) 18 (x_na 41 (mixN k (fun _ => 0) U))) Q := by
  intro r
  induction r with
  | zero =>
    intro k hk
    have : k = 41 := by omega
    subst this
    refine x_iload_n (i := 3) dX2_spreadSights_2 rfl rfl ?_
    refine x_bipush (v := 40) dX2_spreadSights_3 (by decide) ?_
    refine x_icmp_gt 28 dX2_spreadSights_5 (by decide) (fun _ => ?_) (fun hc => absurd (nI_lt (a := 40) (by decide) (by decide)) hc)
    exact x_wk K ⟨rfl, rfl, rfl, trivial⟩
  | succ r ih =>
    intro k hk
    refine x_iload_n (i := 3) dX2_spreadSights_2 rfl rfl ?_
    refine x_bipush (v := 40) dX2_spreadSights_3 (by decide) ?_
    refine x_icmp_gt 28 dX2_spreadSights_5 (by decide) (fun hc => absurd hc (fun q => absurd ((nI_ltI (a := 40) (by decide) (by omega)).mp q) (by omega))) (fun _ => ?_)
    refine x_aload_n (i := 0) dX2_spreadSights_8 rfl rfl ?_
    refine x_get flX2_45 dX2_spreadSights_9 (by first | decide | assumption) (by first | assumption | exact x_up_s | (refine (x_up_n (by first | decide | assumption)).trans ?_; first | assumption | exact x_up_s | (refine (x_up_n (by first | decide | assumption)).trans ?_; first | assumption | exact x_up_s | (refine (x_up_n (by first | decide | assumption)).trans ?_; first | assumption | exact x_up_s | (refine (x_up_n (by first | decide | assumption)).trans ?_; first | assumption | exact x_up_s | (refine (x_up_n (by first | decide | assumption)).trans ?_; first | assumption | exact x_up_s | (refine (x_up_n (by first | decide | assumption)).trans ?_; first | assumption | exact x_up_s | (refine (x_up_n (by first | decide | assumption)).trans ?_; first | assumption | exact x_up_s | (refine (x_up_n (by first | decide | assumption)).trans ?_; first | assumption | exact x_up_s | (refine (x_up_n (by first | decide | assumption)).trans ?_; first | assumption | exact x_up_s | (refine (x_up_n (by first | decide | assumption)).trans ?_; first | assumption | exact x_up_s | (refine (x_up_n (by first | decide | assumption)).trans ?_; first | assumption | exact x_up_s | (refine (x_up_n (by first | decide | assumption)).trans ?_; first | assumption | exact x_up_s | (refine (x_up_n (by first | decide | assumption)).trans ?_; first | assumption | exact x_up_s)))))))))))))) rfl ?_
    refine x_iload_n (i := 3) dX2_spreadSights_12 rfl rfl ?_
    refine x_iconst (v := 0) dX2_spreadSights_13 (by decide) ?_
    refine x_iast k dX2_spreadSights_14 (by first | decide | assumption) (by first | assumption | exact x_up_s | (refine (x_up_n (by first | decide | assumption)).trans ?_; first | assumption | exact x_up_s | (refine (x_up_n (by first | decide | assumption)).trans ?_; first | assumption | exact x_up_s | (refine (x_up_n (by first | decide | assumption)).trans ?_; first | assumption | exact x_up_s | (refine (x_up_n (by first | decide | assumption)).trans ?_; first | assumption | exact x_up_s | (refine (x_up_n (by first | decide | assumption)).trans ?_; first | assumption | exact x_up_s | (refine (x_up_n (by first | decide | assumption)).trans ?_; first | assumption | exact x_up_s | (refine (x_up_n (by first | decide | assumption)).trans ?_; first | assumption | exact x_up_s | (refine (x_up_n (by first | decide | assumption)).trans ?_; first | assumption | exact x_up_s | (refine (x_up_n (by first | decide | assumption)).trans ?_; first | assumption | exact x_up_s | (refine (x_up_n (by first | decide | assumption)).trans ?_; first | assumption | exact x_up_s | (refine (x_up_n (by first | decide | assumption)).trans ?_; first | assumption | exact x_up_s | (refine (x_up_n (by first | decide | assumption)).trans ?_; first | assumption | exact x_up_s | (refine (x_up_n (by first | decide | assumption)).trans ?_; first | assumption | exact x_up_s)))))))))))))) rfl (by omega) (by decide) ?_
    rw [upd_0, zer_s]
    refine x_aload_n (i := 0) dX2_spreadSights_15 rfl rfl ?_
    refine x_get flX2_48 dX2_spreadSights_16 (by first | decide | assumption) (by first | assumption | exact x_up_s | (refine (x_up_n (by first | decide | assumption)).trans ?_; first | assumption | exact x_up_s | (refine (x_up_n (by first | decide | assumption)).trans ?_; first | assumption | exact x_up_s | (refine (x_up_n (by first | decide | assumption)).trans ?_; first | assumption | exact x_up_s | (refine (x_up_n (by first | decide | assumption)).trans ?_; first | assumption | exact x_up_s | (refine (x_up_n (by first | decide | assumption)).trans ?_; first | assumption | exact x_up_s | (refine (x_up_n (by first | decide | assumption)).trans ?_; first | assumption | exact x_up_s | (refine (x_up_n (by first | decide | assumption)).trans ?_; first | assumption | exact x_up_s | (refine (x_up_n (by first | decide | assumption)).trans ?_; first | assumption | exact x_up_s | (refine (x_up_n (by first | decide | assumption)).trans ?_; first | assumption | exact x_up_s | (refine (x_up_n (by first | decide | assumption)).trans ?_; first | assumption | exact x_up_s | (refine (x_up_n (by first | decide | assumption)).trans ?_; first | assumption | exact x_up_s | (refine (x_up_n (by first | decide | assumption)).trans ?_; first | assumption | exact x_up_s | (refine (x_up_n (by first | decide | assumption)).trans ?_; first | assumption | exact x_up_s)))))))))))))) rfl ?_
    refine x_iload_n (i := 3) dX2_spreadSights_19 rfl rfl ?_
    refine x_iconst (v := 0) dX2_spreadSights_20 (by decide) ?_
    refine x_iast k dX2_spreadSights_21 (by first | decide | assumption) (by first | assumption | exact x_up_s | (refine (x_up_n (by first | decide | assumption)).trans ?_; first | assumption | exact x_up_s | (refine (x_up_n (by first | decide | assumption)).trans ?_; first | assumption | exact x_up_s | (refine (x_up_n (by first | decide | assumption)).trans ?_; first | assumption | exact x_up_s | (refine (x_up_n (by first | decide | assumption)).trans ?_; first | assumption | exact x_up_s | (refine (x_up_n (by first | decide | assumption)).trans ?_; first | assumption | exact x_up_s | (refine (x_up_n (by first | decide | assumption)).trans ?_; first | assumption | exact x_up_s | (refine (x_up_n (by first | decide | assumption)).trans ?_; first | assumption | exact x_up_s | (refine (x_up_n (by first | decide | assumption)).trans ?_; first | assumption | exact x_up_s | (refine (x_up_n (by first | decide | assumption)).trans ?_; first | assumption | exact x_up_s | (refine (x_up_n (by first | decide | assumption)).trans ?_; first | assumption | exact x_up_s | (refine (x_up_n (by first | decide | assumption)).trans ?_; first | assumption | exact x_up_s | (refine (x_up_n (by first | decide | assumption)).trans ?_; first | assumption | exact x_up_s | (refine (x_up_n (by first | decide | assumption)).trans ?_; first | assumption | exact x_up_s)))))))))))))) rfl (by omega) (by decide) ?_
    rw [upd_0, zer_s]
    first | refine x_incN dX2_spreadSights_22 rfl (by decide) ?_ | refine x_iinc dX2_spreadSights_22 rfl rfl (by decide) ?_
    refine x_goto 2 dX2_spreadSights_25 (by decide) ?_
    refine x_hp (h' := x_up (x_up h 17 (x_na 41 (mixN (k + 1) (fun _ => 0) W))) 18 (x_na 41 (mixN (k + 1) (fun _ => 0) U))) (by funext j9; simp only [x_up]; (repeat' split) <;> first | rfl | omega | simp_all) ?_
    exact x_wk (ih (k + 1) (by omega)) ⟨rfl, rfl, rfl, rfl, trivial⟩
def spR (n q : Nat) (se sp ss W U : Nat → Nat) : (Nat → Nat) × (Nat → Nat) × Nat := spA n se sp ss q 0 (zer W) (zer U) 0
set_option maxRecDepth 100000 in
set_option maxHeartbeats 4000000 in
theorem cR_spread (d : Nat) (h : x_H) {n : Nat} (hD : h 1 = x_dy n) (hn : n ≤ 40) {L w q : Nat} {se sp ss : Nat → Nat} (hS : h 3 = x_stK 4 5 6 L w q) (h1 : h 4 = x_na 6 se) (h2 : h 5 = x_na 6 sp) (h3 : h 6 = x_za 6 ss) (hq6 : q ≤ 6) (hse : ∀ j, se j ≤ 40) (hsp : ∀ j, sp j < 8) (hss : ∀ j, ss j ≤ 1) {fr wy ak ls : Int32} {W U : Nat → Nat} (hR : h 10 = x_sr fr wy ak ls) (hW : h 17 = x_na 41 W) (hU : h 18 = x_na 41 U) :
    x_Ct (d + 1) mX2_spreadSights [.ref 10, .ref 1, .ref 3] h (fun r h' => r = none ∧ h' = x_up (x_up (x_up h 17 (x_na 41 (spR n q se sp ss W U).1)) 18 (x_na 41 (spR n q se sp ss W U).2.1)) 10 (x_sr fr wy ak (nI (spR n q se sp ss W U).2.2))) := by
  refine x_enter pnX2_spreadSights (Nat.le_of_ble_eq_true rfl) ?_
  refine x_iconst (v := 0) dX2_spreadSights_0 (by decide) ?_
  refine x_istore_n (i := 3) dX2_spreadSights_1 rfl (by decide) ?_
  refine x_hp (h' := x_up (x_up h 17 (x_na 41 (mixN 0 (fun _ => 0) W))) 18 (x_na 41 (mixN 0 (fun _ => 0) U))) (by rw [mixN_0, mixN_0, x_up_eta hW, x_up_eta hU]) ?_
  refine x_wk (cR_spread_z (d + 1) h hR _ W U ?_ 41 0 (by omega)) ⟨rfl, rfl, rfl, rfl, trivial⟩
  refine x_aload_n (i := 0) dX2_spreadSights_28 rfl rfl ?_
  refine x_iconst (v := 0) dX2_spreadSights_29 (by decide) ?_
  refine x_put fpX2_51 dX2_spreadSights_30 (by first | decide | assumption) (by first | assumption | exact x_up_s | (refine (x_up_n (by first | decide | assumption)).trans ?_; first | assumption | exact x_up_s | (refine (x_up_n (by first | decide | assumption)).trans ?_; first | assumption | exact x_up_s | (refine (x_up_n (by first | decide | assumption)).trans ?_; first | assumption | exact x_up_s | (refine (x_up_n (by first | decide | assumption)).trans ?_; first | assumption | exact x_up_s | (refine (x_up_n (by first | decide | assumption)).trans ?_; first | assumption | exact x_up_s | (refine (x_up_n (by first | decide | assumption)).trans ?_; first | assumption | exact x_up_s | (refine (x_up_n (by first | decide | assumption)).trans ?_; first | assumption | exact x_up_s | (refine (x_up_n (by first | decide | assumption)).trans ?_; first | assumption | exact x_up_s | (refine (x_up_n (by first | decide | assumption)).trans ?_; first | assumption | exact x_up_s | (refine (x_up_n (by first | decide | assumption)).trans ?_; first | assumption | exact x_up_s | (refine (x_up_n (by first | decide | assumption)).trans ?_; first | assumption | exact x_up_s | (refine (x_up_n (by first | decide | assumption)).trans ?_; first | assumption | exact x_up_s | (refine (x_up_n (by first | decide | assumption)).trans ?_; first | assumption | exact x_up_s)))))))))))))) rfl rfl (fun _ => rfl) (Nat.le_of_ble_eq_true rfl) rfl ?_
  refine x_iconst (v := 0) dX2_spreadSights_33 (by decide) ?_
  refine x_istore_n (i := 3) dX2_spreadSights_34 rfl (by decide) ?_
  exact x_wk (cR_spread_loop d h hD hn hS h1 h2 h3 hq6 hse hsp hss _ q 0 (zer W) (zer U) 0 (by omega) (by omega) ⟨rfl, rfl⟩) ⟨rfl, rfl, rfl, rfl, trivial⟩
def sgt (W U : Nat → Nat) (j : Nat) : Bool := decide (W j ||| U j ≠ 0)
theorem or_lt8 {a b : Nat} (ha : a < 256) (hb : b < 256) : a ||| b < 256 := Nat.or_lt_two_pow (n := 8) ha hb
set_option maxRecDepth 100000 in
set_option maxHeartbeats 4000000 in
theorem cR_sgt (d : Nat) (h : x_H) {fr wy ak ls : Int32} {W U : Nat → Nat} (hR : h 10 = x_sr fr wy ak ls) (hW : h 17 = x_na 41 W) (hU : h 18 = x_na 41 U) (hW8 : ∀ j, W j < 256) (hU8 : ∀ j, U j < 256) (j : Nat) (hj : j ≤ 40) : x_Ct d mX2_isSighted [.ref 10, .int (nI j)] h (fun r h' => r = some (.int (b2I (sgt W U j))) ∧ h' = h) := by
  have hb := or_lt8 (hW8 j) (hU8 j)
  refine x_enter pnX2_isSighted (Nat.le_of_ble_eq_true rfl) ?_
  refine x_iload_n (i := 1) dX2_isSighted_0 rfl rfl ?_
  refine x_if_lt 30 dX2_isSighted_1 (by decide) (fun hc => absurd hc (nI_pos (by omega))) (fun _ => ?_)
  refine x_iload_n (i := 1) dX2_isSighted_4 rfl rfl ?_
  refine x_bipush (v := 40) dX2_isSighted_5 (by decide) ?_
  refine x_icmp_gt 30 dX2_isSighted_7 (by decide) (fun hc => absurd hc (fun q => absurd ((nI_ltI (a := 40) (by decide) (by omega)).mp q) (by omega))) (fun _ => ?_)
  refine x_aload_n (i := 0) dX2_isSighted_10 rfl rfl ?_
  refine x_get flX2_45 dX2_isSighted_11 (by first | decide | assumption) (by first | assumption | exact x_up_s | (refine (x_up_n (by first | decide | assumption)).trans ?_; first | assumption | exact x_up_s | (refine (x_up_n (by first | decide | assumption)).trans ?_; first | assumption | exact x_up_s | (refine (x_up_n (by first | decide | assumption)).trans ?_; first | assumption | exact x_up_s | (refine (x_up_n (by first | decide | assumption)).trans ?_; first | assumption | exact x_up_s | (refine (x_up_n (by first | decide | assumption)).trans ?_; first | assumption | exact x_up_s | (refine (x_up_n (by first | decide | assumption)).trans ?_; first | assumption | exact x_up_s | (refine (x_up_n (by first | decide | assumption)).trans ?_; first | assumption | exact x_up_s | (refine (x_up_n (by first | decide | assumption)).trans ?_; first | assumption | exact x_up_s | (refine (x_up_n (by first | decide | assumption)).trans ?_; first | assumption | exact x_up_s | (refine (x_up_n (by first | decide | assumption)).trans ?_; first | assumption | exact x_up_s | (refine (x_up_n (by first | decide | assumption)).trans ?_; first | assumption | exact x_up_s | (refine (x_up_n (by first | decide | assumption)).trans ?_; first | assumption | exact x_up_s | (refine (x_up_n (by first | decide | assumption)).trans ?_; first | assumption | exact x_up_s)))))))))))))) rfl ?_
  refine x_iload_n (i := 1) dX2_isSighted_14 rfl rfl ?_
  refine x_iald j dX2_isSighted_15 (by first | decide | assumption) (by first | assumption | exact x_up_s | (refine (x_up_n (by first | decide | assumption)).trans ?_; first | assumption | exact x_up_s | (refine (x_up_n (by first | decide | assumption)).trans ?_; first | assumption | exact x_up_s | (refine (x_up_n (by first | decide | assumption)).trans ?_; first | assumption | exact x_up_s | (refine (x_up_n (by first | decide | assumption)).trans ?_; first | assumption | exact x_up_s | (refine (x_up_n (by first | decide | assumption)).trans ?_; first | assumption | exact x_up_s | (refine (x_up_n (by first | decide | assumption)).trans ?_; first | assumption | exact x_up_s | (refine (x_up_n (by first | decide | assumption)).trans ?_; first | assumption | exact x_up_s | (refine (x_up_n (by first | decide | assumption)).trans ?_; first | assumption | exact x_up_s | (refine (x_up_n (by first | decide | assumption)).trans ?_; first | assumption | exact x_up_s | (refine (x_up_n (by first | decide | assumption)).trans ?_; first | assumption | exact x_up_s | (refine (x_up_n (by first | decide | assumption)).trans ?_; first | assumption | exact x_up_s | (refine (x_up_n (by first | decide | assumption)).trans ?_; first | assumption | exact x_up_s | (refine (x_up_n (by first | decide | assumption)).trans ?_; first | assumption | exact x_up_s)))))))))))))) rfl (by omega) (by decide) ?_
  refine x_aload_n (i := 0) dX2_isSighted_16 rfl rfl ?_
  refine x_get flX2_48 dX2_isSighted_17 (by first | decide | assumption) (by first | assumption | exact x_up_s | (refine (x_up_n (by first | decide | assumption)).trans ?_; first | assumption | exact x_up_s | (refine (x_up_n (by first | decide | assumption)).trans ?_; first | assumption | exact x_up_s | (refine (x_up_n (by first | decide | assumption)).trans ?_; first | assumption | exact x_up_s | (refine (x_up_n (by first | decide | assumption)).trans ?_; first | assumption | exact x_up_s | (refine (x_up_n (by first | decide | assumption)).trans ?_; first | assumption | exact x_up_s | (refine (x_up_n (by first | decide | assumption)).trans ?_; first | assumption | exact x_up_s | (refine (x_up_n (by first | decide | assumption)).trans ?_; first | assumption | exact x_up_s | (refine (x_up_n (by first | decide | assumption)).trans ?_; first | assumption | exact x_up_s | (refine (x_up_n (by first | decide | assumption)).trans ?_; first | assumption | exact x_up_s | (refine (x_up_n (by first | decide | assumption)).trans ?_; first | assumption | exact x_up_s | (refine (x_up_n (by first | decide | assumption)).trans ?_; first | assumption | exact x_up_s | (refine (x_up_n (by first | decide | assumption)).trans ?_; first | assumption | exact x_up_s | (refine (x_up_n (by first | decide | assumption)).trans ?_; first | assumption | exact x_up_s)))))))))))))) rfl ?_
  refine x_iload_n (i := 1) dX2_isSighted_20 rfl rfl ?_
  refine x_iald j dX2_isSighted_21 (by first | decide | assumption) (by first | assumption | exact x_up_s | (refine (x_up_n (by first | decide | assumption)).trans ?_; first | assumption | exact x_up_s | (refine (x_up_n (by first | decide | assumption)).trans ?_; first | assumption | exact x_up_s | (refine (x_up_n (by first | decide | assumption)).trans ?_; first | assumption | exact x_up_s | (refine (x_up_n (by first | decide | assumption)).trans ?_; first | assumption | exact x_up_s | (refine (x_up_n (by first | decide | assumption)).trans ?_; first | assumption | exact x_up_s | (refine (x_up_n (by first | decide | assumption)).trans ?_; first | assumption | exact x_up_s | (refine (x_up_n (by first | decide | assumption)).trans ?_; first | assumption | exact x_up_s | (refine (x_up_n (by first | decide | assumption)).trans ?_; first | assumption | exact x_up_s | (refine (x_up_n (by first | decide | assumption)).trans ?_; first | assumption | exact x_up_s | (refine (x_up_n (by first | decide | assumption)).trans ?_; first | assumption | exact x_up_s | (refine (x_up_n (by first | decide | assumption)).trans ?_; first | assumption | exact x_up_s | (refine (x_up_n (by first | decide | assumption)).trans ?_; first | assumption | exact x_up_s | (refine (x_up_n (by first | decide | assumption)).trans ?_; first | assumption | exact x_up_s)))))))))))))) rfl (by omega) (by decide) ?_
  refine x_ior dX2_isSighted_22 ?_
  refine x_topi (n_or _ _) ?_
  refine x_if_eq 30 dX2_isSighted_23 (by decide) (fun hc => ?_) (fun hc => ?_)
  · have h0 : W j ||| U j = 0 := nI_inj (b := 0) (by omega) (by decide) hc
    refine x_iconst (v := 0) dX2_isSighted_30 (by decide) ?_
    refine x_zret dX2_isSighted_31 rfl (by first | rfl | decide | assumption) ⟨by rw [sgt, decide_eq_false (fun q => q h0)]; rfl, rfl⟩
  · have h0 : W j ||| U j ≠ 0 := fun q => hc (by rw [q]; rfl)
    refine x_iconst (v := 1) dX2_isSighted_26 (by decide) ?_
    refine x_goto 31 dX2_isSighted_27 (by decide) ?_
    refine x_zret dX2_isSighted_31 rfl (by first | rfl | decide | assumption) ⟨by rw [sgt, decide_eq_true h0]; rfl, rfl⟩
abbrev x_oa (n : Nat) (T : Nat → Option Nat) : x_E := .inl (0, n, .inl (fun j => oI (T j)))
def oU (T : Nat → Option Nat) (k : Nat) (v : Option Nat) : Nat → Option Nat := fun j => if j = k then v else T j
theorem oU_upd (T : Nat → Option Nat) (k : Nat) (v : Option Nat) : upd (fun j => oI (T j)) k (oI v) = fun j => oI (oU T k v j) := by
  funext j
  by_cases hj : j = k
  · simp [upd, oU, hj]
  · simp [upd, oU, hj]
theorem oU_oU (T : Nat → Option Nat) (k : Nat) (v u : Option Nat) : oU (oU T k v) k u = oU T k u := by
  funext j
  by_cases hj : j = k
  · simp [oU, hj]
  · simp [oU, hj]
/-- told crossings that show at the next sight, from event i - 1 down to 0 -/
def ktA (n : Nat) (cs : Nat → Nat) (w L : Nat) (W U : Nat → Nat) : Nat → Nat → Nat → (Nat → Option Nat) → (Nat → Option Nat)
  | 0, _, _, T => T
  | i + 1, lt, lp, T =>
    let lt1 := if sgt W U (i + 1) then 0 else lt
    let lp1 := if sgt W U (i + 1) then 0 else lp
    match crN (cd n cs (nI i)) with
    | none => ktA n cs w L W U i lt1 lp1 (oU T i none)
    | some p => ktA n cs w L W U i (lt1 + 1) (lp1 ||| 2 ^ p) (oU T i (if (if w = 1 then !(lp1.testBit p) else decide (lt1 < L)) = true then some p else none))
theorem pow_lt8 {p : Nat} (hp : p < 8) : 2 ^ p < 256 := by
  have := Nat.pow_lt_pow_right (a := 2) (by decide) hp
  exact this
set_option maxRecDepth 100000 in
set_option maxHeartbeats 4000000 in
theorem cR_keep_loop (d : Nat) (h : x_H) {n : Nat} {cs : Nat → Nat} (hD : h 1 = x_dy n) (hG : h 2 = x_sg cs) (hok : okD n cs) {L w q : Nat} (hS : h 3 = x_stK 4 5 6 L w q) (hL9 : L ≤ 9) (hw : w ≤ 2) {fr wy ak ls : Int32} {W U : Nat → Nat} (hR : h 10 = x_sr fr wy ak ls) (hW : h 17 = x_na 41 W) (hU : h 18 = x_na 41 U) (hW8 : ∀ j, W j < 256) (hU8 : ∀ j, U j < 256) (Q : Option Value → x_H → Prop) :
    ∀ (i lt lp : Nat) (T : Nat → Option Nat), i ≤ 40 → lt + i ≤ 40 → lp < 256 → Q none (x_up h 19 (x_oa 40 (ktA n cs w L W U i lt lp T))) →
      x_V (d + 2) mX2_keepTold 9 (x_ls [some (.ref 10), some (.ref 1), some (.ref 3), some (.int (nI lt)), some (.int (nI lp)), some (.int (nI i - 1))]) [] (x_up h 19 (x_oa 40 T)) Q := by
  intro i
  induction i with
  | zero =>
    intro lt lp T hi hlt hlp hq
    refine x_iload dX2_keepTold_9 rfl ?_
    refine x_if_lt 142 dX2_keepTold_11 (by decide) (fun _ => ?_) (fun hc => absurd (by decide) hc)
    refine x_vret dX2_keepTold_142 rfl hq
  | succ i ih =>
    intro lt lp T hi hlt hlp hq
    rw [nI_s1]
    unfold ktA at hq
    dsimp only at hq
    refine x_iload dX2_keepTold_9 rfl ?_
    refine x_if_lt 142 dX2_keepTold_11 (by decide) (fun hc => absurd hc (nI_pos (by omega))) (fun _ => ?_)
    refine x_aload_n (i := 0) dX2_keepTold_14 rfl rfl ?_
    refine x_iload dX2_keepTold_15 rfl ?_
    refine x_iconst (v := 1) dX2_keepTold_17 (by decide) ?_
    refine x_iadd dX2_keepTold_18 ?_
    refine x_topi (nI_1 i) ?_
    refine x_invV clX2_128 dX2_keepTold_19 (cR_sgt d _ (by first | assumption | exact x_up_s | (refine (x_up_n (by first | decide | assumption)).trans ?_; first | assumption | exact x_up_s | (refine (x_up_n (by first | decide | assumption)).trans ?_; first | assumption | exact x_up_s | (refine (x_up_n (by first | decide | assumption)).trans ?_; first | assumption | exact x_up_s | (refine (x_up_n (by first | decide | assumption)).trans ?_; first | assumption | exact x_up_s | (refine (x_up_n (by first | decide | assumption)).trans ?_; first | assumption | exact x_up_s | (refine (x_up_n (by first | decide | assumption)).trans ?_; first | assumption | exact x_up_s | (refine (x_up_n (by first | decide | assumption)).trans ?_; first | assumption | exact x_up_s | (refine (x_up_n (by first | decide | assumption)).trans ?_; first | assumption | exact x_up_s | (refine (x_up_n (by first | decide | assumption)).trans ?_; first | assumption | exact x_up_s | (refine (x_up_n (by first | decide | assumption)).trans ?_; first | assumption | exact x_up_s | (refine (x_up_n (by first | decide | assumption)).trans ?_; first | assumption | exact x_up_s | (refine (x_up_n (by first | decide | assumption)).trans ?_; first | assumption | exact x_up_s | (refine (x_up_n (by first | decide | assumption)).trans ?_; first | assumption | exact x_up_s)))))))))))))) (by first | assumption | exact x_up_s | (refine (x_up_n (by first | decide | assumption)).trans ?_; first | assumption | exact x_up_s | (refine (x_up_n (by first | decide | assumption)).trans ?_; first | assumption | exact x_up_s | (refine (x_up_n (by first | decide | assumption)).trans ?_; first | assumption | exact x_up_s | (refine (x_up_n (by first | decide | assumption)).trans ?_; first | assumption | exact x_up_s | (refine (x_up_n (by first | decide | assumption)).trans ?_; first | assumption | exact x_up_s | (refine (x_up_n (by first | decide | assumption)).trans ?_; first | assumption | exact x_up_s | (refine (x_up_n (by first | decide | assumption)).trans ?_; first | assumption | exact x_up_s | (refine (x_up_n (by first | decide | assumption)).trans ?_; first | assumption | exact x_up_s | (refine (x_up_n (by first | decide | assumption)).trans ?_; first | assumption | exact x_up_s | (refine (x_up_n (by first | decide | assumption)).trans ?_; first | assumption | exact x_up_s | (refine (x_up_n (by first | decide | assumption)).trans ?_; first | assumption | exact x_up_s | (refine (x_up_n (by first | decide | assumption)).trans ?_; first | assumption | exact x_up_s | (refine (x_up_n (by first | decide | assumption)).trans ?_; first | assumption | exact x_up_s)))))))))))))) (by first | assumption | exact x_up_s | (refine (x_up_n (by first | decide | assumption)).trans ?_; first | assumption | exact x_up_s | (refine (x_up_n (by first | decide | assumption)).trans ?_; first | assumption | exact x_up_s | (refine (x_up_n (by first | decide | assumption)).trans ?_; first | assumption | exact x_up_s | (refine (x_up_n (by first | decide | assumption)).trans ?_; first | assumption | exact x_up_s | (refine (x_up_n (by first | decide | assumption)).trans ?_; first | assumption | exact x_up_s | (refine (x_up_n (by first | decide | assumption)).trans ?_; first | assumption | exact x_up_s | (refine (x_up_n (by first | decide | assumption)).trans ?_; first | assumption | exact x_up_s | (refine (x_up_n (by first | decide | assumption)).trans ?_; first | assumption | exact x_up_s | (refine (x_up_n (by first | decide | assumption)).trans ?_; first | assumption | exact x_up_s | (refine (x_up_n (by first | decide | assumption)).trans ?_; first | assumption | exact x_up_s | (refine (x_up_n (by first | decide | assumption)).trans ?_; first | assumption | exact x_up_s | (refine (x_up_n (by first | decide | assumption)).trans ?_; first | assumption | exact x_up_s | (refine (x_up_n (by first | decide | assumption)).trans ?_; first | assumption | exact x_up_s)))))))))))))) hW8 hU8 (i + 1) (by omega)) (by omega) rfl (by first | decide | assumption) (by first | assumption | exact x_up_s | (refine (x_up_n (by first | decide | assumption)).trans ?_; first | assumption | exact x_up_s | (refine (x_up_n (by first | decide | assumption)).trans ?_; first | assumption | exact x_up_s | (refine (x_up_n (by first | decide | assumption)).trans ?_; first | assumption | exact x_up_s | (refine (x_up_n (by first | decide | assumption)).trans ?_; first | assumption | exact x_up_s | (refine (x_up_n (by first | decide | assumption)).trans ?_; first | assumption | exact x_up_s | (refine (x_up_n (by first | decide | assumption)).trans ?_; first | assumption | exact x_up_s | (refine (x_up_n (by first | decide | assumption)).trans ?_; first | assumption | exact x_up_s | (refine (x_up_n (by first | decide | assumption)).trans ?_; first | assumption | exact x_up_s | (refine (x_up_n (by first | decide | assumption)).trans ?_; first | assumption | exact x_up_s | (refine (x_up_n (by first | decide | assumption)).trans ?_; first | assumption | exact x_up_s | (refine (x_up_n (by first | decide | assumption)).trans ?_; first | assumption | exact x_up_s | (refine (x_up_n (by first | decide | assumption)).trans ?_; first | assumption | exact x_up_s | (refine (x_up_n (by first | decide | assumption)).trans ?_; first | assumption | exact x_up_s)))))))))))))) rfl (Nat.le_of_ble_eq_true rfl) ?_
    rintro r h' ⟨rfl, rfl⟩
    -- from 30 on
    have tail : ∀ (lt1 lp1 : Nat), lt1 + i + 1 ≤ 40 → lp1 < 256 → Q none (x_up h 19 (x_oa 40 (match crN (cd n cs (nI i)) with
        | none => ktA n cs w L W U i lt1 lp1 (oU T i none)
        | some p => ktA n cs w L W U i (lt1 + 1) (lp1 ||| 2 ^ p) (oU T i (if (if w = 1 then !(lp1.testBit p) else decide (lt1 < L)) = true then some p else none))))) →
        x_V (d + 2) mX2_keepTold 30 (x_ls [some (.ref 10), some (.ref 1), some (.ref 3), some (.int (nI lt1)), some (.int (nI lp1)), some (.int (nI i))]) [] (x_up h 19 (x_oa 40 T)) Q := by
      intro lt1 lp1 hlt1 hlp1 hq
      refine x_aload_n (i := 0) dX2_keepTold_30 rfl rfl ?_
      refine x_get flX2_54 dX2_keepTold_31 (by first | decide | assumption) (by first | assumption | exact x_up_s | (refine (x_up_n (by first | decide | assumption)).trans ?_; first | assumption | exact x_up_s | (refine (x_up_n (by first | decide | assumption)).trans ?_; first | assumption | exact x_up_s | (refine (x_up_n (by first | decide | assumption)).trans ?_; first | assumption | exact x_up_s | (refine (x_up_n (by first | decide | assumption)).trans ?_; first | assumption | exact x_up_s | (refine (x_up_n (by first | decide | assumption)).trans ?_; first | assumption | exact x_up_s | (refine (x_up_n (by first | decide | assumption)).trans ?_; first | assumption | exact x_up_s | (refine (x_up_n (by first | decide | assumption)).trans ?_; first | assumption | exact x_up_s | (refine (x_up_n (by first | decide | assumption)).trans ?_; first | assumption | exact x_up_s | (refine (x_up_n (by first | decide | assumption)).trans ?_; first | assumption | exact x_up_s | (refine (x_up_n (by first | decide | assumption)).trans ?_; first | assumption | exact x_up_s | (refine (x_up_n (by first | decide | assumption)).trans ?_; first | assumption | exact x_up_s | (refine (x_up_n (by first | decide | assumption)).trans ?_; first | assumption | exact x_up_s | (refine (x_up_n (by first | decide | assumption)).trans ?_; first | assumption | exact x_up_s)))))))))))))) rfl ?_
      refine x_iload dX2_keepTold_34 rfl ?_
      refine x_iconst (v := (-1)) dX2_keepTold_36 (by decide) ?_
      refine x_iast i dX2_keepTold_37 (by first | decide | assumption) (by first | assumption | exact x_up_s | (refine (x_up_n (by first | decide | assumption)).trans ?_; first | assumption | exact x_up_s | (refine (x_up_n (by first | decide | assumption)).trans ?_; first | assumption | exact x_up_s | (refine (x_up_n (by first | decide | assumption)).trans ?_; first | assumption | exact x_up_s | (refine (x_up_n (by first | decide | assumption)).trans ?_; first | assumption | exact x_up_s | (refine (x_up_n (by first | decide | assumption)).trans ?_; first | assumption | exact x_up_s | (refine (x_up_n (by first | decide | assumption)).trans ?_; first | assumption | exact x_up_s | (refine (x_up_n (by first | decide | assumption)).trans ?_; first | assumption | exact x_up_s | (refine (x_up_n (by first | decide | assumption)).trans ?_; first | assumption | exact x_up_s | (refine (x_up_n (by first | decide | assumption)).trans ?_; first | assumption | exact x_up_s | (refine (x_up_n (by first | decide | assumption)).trans ?_; first | assumption | exact x_up_s | (refine (x_up_n (by first | decide | assumption)).trans ?_; first | assumption | exact x_up_s | (refine (x_up_n (by first | decide | assumption)).trans ?_; first | assumption | exact x_up_s | (refine (x_up_n (by first | decide | assumption)).trans ?_; first | assumption | exact x_up_s)))))))))))))) rfl (by omega) (by decide) ?_
      rw [show (-1 : Int32) = oI none from rfl, oU_upd, x_up_up]
      refine x_aload_n (i := 1) dX2_keepTold_38 rfl rfl ?_
      refine x_iload dX2_keepTold_39 rfl ?_
      refine x_invV clX2_131 dX2_keepTold_41 (cD_crosser d _ (by first | assumption | exact x_up_s | (refine (x_up_n (by first | decide | assumption)).trans ?_; first | assumption | exact x_up_s | (refine (x_up_n (by first | decide | assumption)).trans ?_; first | assumption | exact x_up_s | (refine (x_up_n (by first | decide | assumption)).trans ?_; first | assumption | exact x_up_s | (refine (x_up_n (by first | decide | assumption)).trans ?_; first | assumption | exact x_up_s | (refine (x_up_n (by first | decide | assumption)).trans ?_; first | assumption | exact x_up_s | (refine (x_up_n (by first | decide | assumption)).trans ?_; first | assumption | exact x_up_s | (refine (x_up_n (by first | decide | assumption)).trans ?_; first | assumption | exact x_up_s | (refine (x_up_n (by first | decide | assumption)).trans ?_; first | assumption | exact x_up_s | (refine (x_up_n (by first | decide | assumption)).trans ?_; first | assumption | exact x_up_s | (refine (x_up_n (by first | decide | assumption)).trans ?_; first | assumption | exact x_up_s | (refine (x_up_n (by first | decide | assumption)).trans ?_; first | assumption | exact x_up_s | (refine (x_up_n (by first | decide | assumption)).trans ?_; first | assumption | exact x_up_s | (refine (x_up_n (by first | decide | assumption)).trans ?_; first | assumption | exact x_up_s)))))))))))))) (by first | assumption | exact x_up_s | (refine (x_up_n (by first | decide | assumption)).trans ?_; first | assumption | exact x_up_s | (refine (x_up_n (by first | decide | assumption)).trans ?_; first | assumption | exact x_up_s | (refine (x_up_n (by first | decide | assumption)).trans ?_; first | assumption | exact x_up_s | (refine (x_up_n (by first | decide | assumption)).trans ?_; first | assumption | exact x_up_s | (refine (x_up_n (by first | decide | assumption)).trans ?_; first | assumption | exact x_up_s | (refine (x_up_n (by first | decide | assumption)).trans ?_; first | assumption | exact x_up_s | (refine (x_up_n (by first | decide | assumption)).trans ?_; first | assumption | exact x_up_s | (refine (x_up_n (by first | decide | assumption)).trans ?_; first | assumption | exact x_up_s | (refine (x_up_n (by first | decide | assumption)).trans ?_; first | assumption | exact x_up_s | (refine (x_up_n (by first | decide | assumption)).trans ?_; first | assumption | exact x_up_s | (refine (x_up_n (by first | decide | assumption)).trans ?_; first | assumption | exact x_up_s | (refine (x_up_n (by first | decide | assumption)).trans ?_; first | assumption | exact x_up_s | (refine (x_up_n (by first | decide | assumption)).trans ?_; first | assumption | exact x_up_s)))))))))))))) hok (nI i)) (by omega) rfl (by first | decide | assumption) (by first | assumption | exact x_up_s | (refine (x_up_n (by first | decide | assumption)).trans ?_; first | assumption | exact x_up_s | (refine (x_up_n (by first | decide | assumption)).trans ?_; first | assumption | exact x_up_s | (refine (x_up_n (by first | decide | assumption)).trans ?_; first | assumption | exact x_up_s | (refine (x_up_n (by first | decide | assumption)).trans ?_; first | assumption | exact x_up_s | (refine (x_up_n (by first | decide | assumption)).trans ?_; first | assumption | exact x_up_s | (refine (x_up_n (by first | decide | assumption)).trans ?_; first | assumption | exact x_up_s | (refine (x_up_n (by first | decide | assumption)).trans ?_; first | assumption | exact x_up_s | (refine (x_up_n (by first | decide | assumption)).trans ?_; first | assumption | exact x_up_s | (refine (x_up_n (by first | decide | assumption)).trans ?_; first | assumption | exact x_up_s | (refine (x_up_n (by first | decide | assumption)).trans ?_; first | assumption | exact x_up_s | (refine (x_up_n (by first | decide | assumption)).trans ?_; first | assumption | exact x_up_s | (refine (x_up_n (by first | decide | assumption)).trans ?_; first | assumption | exact x_up_s | (refine (x_up_n (by first | decide | assumption)).trans ?_; first | assumption | exact x_up_s)))))))))))))) rfl (Nat.le_of_ble_eq_true rfl) ?_
      rintro r h' ⟨rfl, rfl⟩
      cases hc : crN (cd n cs (nI i)) with
      | none =>
        rw [hc] at hq
        dsimp only at hq
        refine x_istore dX2_keepTold_44 (by decide) ?_
        refine x_iload dX2_keepTold_46 rfl ?_
        refine x_iconst (v := (-1)) dX2_keepTold_48 (by decide) ?_
        refine x_icmp_eq 136 dX2_keepTold_49 (by decide) (fun _ => ?_) (fun hc => absurd (rfl) hc)
        refine x_dec dX2_keepTold_136 rfl (by decide) ?_
        refine x_goto 9 dX2_keepTold_139 (by decide) ?_
        exact x_wk (ih lt1 lp1 _ (by omega) (by omega) hlp1 hq) ⟨rfl, rfl, rfl, rfl, rfl, rfl, trivial⟩
      | some p =>
        have hp := crN_lt hc
        rw [hc] at hq
        dsimp only at hq
        have hlp2 : lp1 ||| 2 ^ p < 256 := or_lt8 hlp1 (pow_lt8 hp.1)
        -- from 104 on
        have fin : ∀ (sh : Bool) (j7 : Int32), Q none (x_up h 19 (x_oa 40 (ktA n cs w L W U i (lt1 + 1) (lp1 ||| 2 ^ p) (oU T i (if sh = true then some p else none))))) →
            x_V (d + 2) mX2_keepTold 104 (x_ls [some (.ref 10), some (.ref 1), some (.ref 3), some (.int (nI lt1)), some (.int (nI lp1)), some (.int (nI i)), some (.int (nI p)), some (.int j7)]) [.int (b2I sh)] (x_up h 19 (x_oa 40 (oU T i none))) Q := by
          intro sh j7 hq
          have last : x_V (d + 2) mX2_keepTold 124 (x_ls [some (.ref 10), some (.ref 1), some (.ref 3), some (.int (nI lt1)), some (.int (nI lp1)), some (.int (nI i)), some (.int (nI p))]) [] (x_up h 19 (x_oa 40 (oU T i (if sh = true then some p else none)))) Q := by
            first | refine x_incN dX2_keepTold_124 rfl (by decide) ?_ | refine x_iinc dX2_keepTold_124 rfl rfl (by decide) ?_
            refine x_iload dX2_keepTold_127 rfl ?_
            refine x_iconst (v := 1) dX2_keepTold_129 (by decide) ?_
            refine x_iload dX2_keepTold_130 rfl ?_
            refine x_ishl dX2_keepTold_132 ?_
            refine x_ior dX2_keepTold_133 ?_
            refine x_topi (y := nI (lp1 ||| 2 ^ p)) (by rw [n_one_shl _ (by omega), n_or]) ?_
            refine x_istore dX2_keepTold_134 (by decide) ?_
            refine x_dec dX2_keepTold_136 rfl (by decide) ?_
            refine x_goto 9 dX2_keepTold_139 (by decide) ?_
            exact x_wk (ih (lt1 + 1) _ _ (by omega) (by omega) hlp2 hq) ⟨rfl, rfl, rfl, rfl, rfl, rfl, trivial⟩
          cases sh with
          | true =>
            refine x_istore dX2_keepTold_104 (by decide) ?_
            refine x_aload_n (i := 0) dX2_keepTold_106 rfl rfl ?_
            refine x_get flX2_54 dX2_keepTold_107 (by first | decide | assumption) (by first | assumption | exact x_up_s | (refine (x_up_n (by first | decide | assumption)).trans ?_; first | assumption | exact x_up_s | (refine (x_up_n (by first | decide | assumption)).trans ?_; first | assumption | exact x_up_s | (refine (x_up_n (by first | decide | assumption)).trans ?_; first | assumption | exact x_up_s | (refine (x_up_n (by first | decide | assumption)).trans ?_; first | assumption | exact x_up_s | (refine (x_up_n (by first | decide | assumption)).trans ?_; first | assumption | exact x_up_s | (refine (x_up_n (by first | decide | assumption)).trans ?_; first | assumption | exact x_up_s | (refine (x_up_n (by first | decide | assumption)).trans ?_; first | assumption | exact x_up_s | (refine (x_up_n (by first | decide | assumption)).trans ?_; first | assumption | exact x_up_s | (refine (x_up_n (by first | decide | assumption)).trans ?_; first | assumption | exact x_up_s | (refine (x_up_n (by first | decide | assumption)).trans ?_; first | assumption | exact x_up_s | (refine (x_up_n (by first | decide | assumption)).trans ?_; first | assumption | exact x_up_s | (refine (x_up_n (by first | decide | assumption)).trans ?_; first | assumption | exact x_up_s | (refine (x_up_n (by first | decide | assumption)).trans ?_; first | assumption | exact x_up_s)))))))))))))) rfl ?_
            refine x_iload dX2_keepTold_110 rfl ?_
            refine x_iload dX2_keepTold_112 rfl ?_
            refine x_if_eq 122 dX2_keepTold_114 (by decide) (fun hc => absurd hc (by decide)) (fun _ => ?_)
            refine x_iload dX2_keepTold_117 rfl ?_
            refine x_goto 123 dX2_keepTold_119 (by decide) ?_
            refine x_iast i dX2_keepTold_123 (by first | decide | assumption) (by first | assumption | exact x_up_s | (refine (x_up_n (by first | decide | assumption)).trans ?_; first | assumption | exact x_up_s | (refine (x_up_n (by first | decide | assumption)).trans ?_; first | assumption | exact x_up_s | (refine (x_up_n (by first | decide | assumption)).trans ?_; first | assumption | exact x_up_s | (refine (x_up_n (by first | decide | assumption)).trans ?_; first | assumption | exact x_up_s | (refine (x_up_n (by first | decide | assumption)).trans ?_; first | assumption | exact x_up_s | (refine (x_up_n (by first | decide | assumption)).trans ?_; first | assumption | exact x_up_s | (refine (x_up_n (by first | decide | assumption)).trans ?_; first | assumption | exact x_up_s | (refine (x_up_n (by first | decide | assumption)).trans ?_; first | assumption | exact x_up_s | (refine (x_up_n (by first | decide | assumption)).trans ?_; first | assumption | exact x_up_s | (refine (x_up_n (by first | decide | assumption)).trans ?_; first | assumption | exact x_up_s | (refine (x_up_n (by first | decide | assumption)).trans ?_; first | assumption | exact x_up_s | (refine (x_up_n (by first | decide | assumption)).trans ?_; first | assumption | exact x_up_s | (refine (x_up_n (by first | decide | assumption)).trans ?_; first | assumption | exact x_up_s)))))))))))))) rfl (by omega) (by decide) ?_
            rw [show nI p = oI (some p) from rfl, oU_upd, x_up_up, oU_oU]
            exact x_wk last ⟨rfl, rfl, rfl, rfl, rfl, rfl, rfl, trivial⟩
          | false =>
            refine x_istore dX2_keepTold_104 (by decide) ?_
            refine x_aload_n (i := 0) dX2_keepTold_106 rfl rfl ?_
            refine x_get flX2_54 dX2_keepTold_107 (by first | decide | assumption) (by first | assumption | exact x_up_s | (refine (x_up_n (by first | decide | assumption)).trans ?_; first | assumption | exact x_up_s | (refine (x_up_n (by first | decide | assumption)).trans ?_; first | assumption | exact x_up_s | (refine (x_up_n (by first | decide | assumption)).trans ?_; first | assumption | exact x_up_s | (refine (x_up_n (by first | decide | assumption)).trans ?_; first | assumption | exact x_up_s | (refine (x_up_n (by first | decide | assumption)).trans ?_; first | assumption | exact x_up_s | (refine (x_up_n (by first | decide | assumption)).trans ?_; first | assumption | exact x_up_s | (refine (x_up_n (by first | decide | assumption)).trans ?_; first | assumption | exact x_up_s | (refine (x_up_n (by first | decide | assumption)).trans ?_; first | assumption | exact x_up_s | (refine (x_up_n (by first | decide | assumption)).trans ?_; first | assumption | exact x_up_s | (refine (x_up_n (by first | decide | assumption)).trans ?_; first | assumption | exact x_up_s | (refine (x_up_n (by first | decide | assumption)).trans ?_; first | assumption | exact x_up_s | (refine (x_up_n (by first | decide | assumption)).trans ?_; first | assumption | exact x_up_s | (refine (x_up_n (by first | decide | assumption)).trans ?_; first | assumption | exact x_up_s)))))))))))))) rfl ?_
            refine x_iload dX2_keepTold_110 rfl ?_
            refine x_iload dX2_keepTold_112 rfl ?_
            refine x_if_eq 122 dX2_keepTold_114 (by decide) (fun _ => ?_) (fun hc => absurd (rfl) hc)
            refine x_iconst (v := (-1)) dX2_keepTold_122 (by decide) ?_
            refine x_iast i dX2_keepTold_123 (by first | decide | assumption) (by first | assumption | exact x_up_s | (refine (x_up_n (by first | decide | assumption)).trans ?_; first | assumption | exact x_up_s | (refine (x_up_n (by first | decide | assumption)).trans ?_; first | assumption | exact x_up_s | (refine (x_up_n (by first | decide | assumption)).trans ?_; first | assumption | exact x_up_s | (refine (x_up_n (by first | decide | assumption)).trans ?_; first | assumption | exact x_up_s | (refine (x_up_n (by first | decide | assumption)).trans ?_; first | assumption | exact x_up_s | (refine (x_up_n (by first | decide | assumption)).trans ?_; first | assumption | exact x_up_s | (refine (x_up_n (by first | decide | assumption)).trans ?_; first | assumption | exact x_up_s | (refine (x_up_n (by first | decide | assumption)).trans ?_; first | assumption | exact x_up_s | (refine (x_up_n (by first | decide | assumption)).trans ?_; first | assumption | exact x_up_s | (refine (x_up_n (by first | decide | assumption)).trans ?_; first | assumption | exact x_up_s | (refine (x_up_n (by first | decide | assumption)).trans ?_; first | assumption | exact x_up_s | (refine (x_up_n (by first | decide | assumption)).trans ?_; first | assumption | exact x_up_s | (refine (x_up_n (by first | decide | assumption)).trans ?_; first | assumption | exact x_up_s)))))))))))))) rfl (by omega) (by decide) ?_
            rw [show (-1 : Int32) = oI none from rfl, oU_upd, x_up_up, oU_oU]
            exact x_wk last ⟨rfl, rfl, rfl, rfl, rfl, rfl, rfl, trivial⟩
        rw [show oI (some p) = nI p from rfl]
        refine x_istore dX2_keepTold_44 (by decide) ?_
        refine x_iload dX2_keepTold_46 rfl ?_
        refine x_iconst (v := (-1)) dX2_keepTold_48 (by decide) ?_
        refine x_icmp_eq 136 dX2_keepTold_49 (by decide) (fun hc => absurd hc (nI_neg1 (by omega))) (fun _ => ?_)
        refine x_iload dX2_keepTold_52 rfl ?_
        refine x_iload dX2_keepTold_54 rfl ?_
        refine x_iushr dX2_keepTold_56 ?_
        refine x_iconst (v := 1) dX2_keepTold_57 (by decide) ?_
        refine x_iand dX2_keepTold_58 ?_
        refine x_topi (n_bit (by omega) (by omega)) ?_
        refine x_iconst (v := 1) dX2_keepTold_59 (by decide) ?_
        -- from 68 on
        have mid : ∀ (ag : Bool), ag = lp1.testBit p → x_V (d + 2) mX2_keepTold 68 (x_ls [some (.ref 10), some (.ref 1), some (.ref 3), some (.int (nI lt1)), some (.int (nI lp1)), some (.int (nI i)), some (.int (nI p))]) [.int (b2I ag)] (x_up h 19 (x_oa 40 (oU T i none))) Q := by
          intro ag hag
          rw [← hag] at hq
          refine x_istore dX2_keepTold_68 (by decide) ?_
          refine x_aload_n (i := 2) dX2_keepTold_70 rfl rfl ?_
          refine x_get flX2_76 dX2_keepTold_71 (by first | decide | assumption) (by first | assumption | exact x_up_s | (refine (x_up_n (by first | decide | assumption)).trans ?_; first | assumption | exact x_up_s | (refine (x_up_n (by first | decide | assumption)).trans ?_; first | assumption | exact x_up_s | (refine (x_up_n (by first | decide | assumption)).trans ?_; first | assumption | exact x_up_s | (refine (x_up_n (by first | decide | assumption)).trans ?_; first | assumption | exact x_up_s | (refine (x_up_n (by first | decide | assumption)).trans ?_; first | assumption | exact x_up_s | (refine (x_up_n (by first | decide | assumption)).trans ?_; first | assumption | exact x_up_s | (refine (x_up_n (by first | decide | assumption)).trans ?_; first | assumption | exact x_up_s | (refine (x_up_n (by first | decide | assumption)).trans ?_; first | assumption | exact x_up_s | (refine (x_up_n (by first | decide | assumption)).trans ?_; first | assumption | exact x_up_s | (refine (x_up_n (by first | decide | assumption)).trans ?_; first | assumption | exact x_up_s | (refine (x_up_n (by first | decide | assumption)).trans ?_; first | assumption | exact x_up_s | (refine (x_up_n (by first | decide | assumption)).trans ?_; first | assumption | exact x_up_s | (refine (x_up_n (by first | decide | assumption)).trans ?_; first | assumption | exact x_up_s)))))))))))))) rfl ?_
          refine x_iconst (v := 1) dX2_keepTold_74 (by decide) ?_
          refine x_icmp_ne 91 dX2_keepTold_75 (by decide) (fun hc => ?_) (fun hc => ?_)
          · have hw1 : ¬ w = 1 := fun q => hc (by rw [q]; rfl)
            rw [if_neg hw1] at hq
            refine x_iload_n (i := 3) dX2_keepTold_91 rfl rfl ?_
            refine x_aload_n (i := 2) dX2_keepTold_92 rfl rfl ?_
            refine x_get flX2_71 dX2_keepTold_93 (by first | decide | assumption) (by first | assumption | exact x_up_s | (refine (x_up_n (by first | decide | assumption)).trans ?_; first | assumption | exact x_up_s | (refine (x_up_n (by first | decide | assumption)).trans ?_; first | assumption | exact x_up_s | (refine (x_up_n (by first | decide | assumption)).trans ?_; first | assumption | exact x_up_s | (refine (x_up_n (by first | decide | assumption)).trans ?_; first | assumption | exact x_up_s | (refine (x_up_n (by first | decide | assumption)).trans ?_; first | assumption | exact x_up_s | (refine (x_up_n (by first | decide | assumption)).trans ?_; first | assumption | exact x_up_s | (refine (x_up_n (by first | decide | assumption)).trans ?_; first | assumption | exact x_up_s | (refine (x_up_n (by first | decide | assumption)).trans ?_; first | assumption | exact x_up_s | (refine (x_up_n (by first | decide | assumption)).trans ?_; first | assumption | exact x_up_s | (refine (x_up_n (by first | decide | assumption)).trans ?_; first | assumption | exact x_up_s | (refine (x_up_n (by first | decide | assumption)).trans ?_; first | assumption | exact x_up_s | (refine (x_up_n (by first | decide | assumption)).trans ?_; first | assumption | exact x_up_s | (refine (x_up_n (by first | decide | assumption)).trans ?_; first | assumption | exact x_up_s)))))))))))))) rfl ?_
            by_cases hlL : lt1 < L
            · rw [decide_eq_true hlL] at hq
              refine x_icmp_ge 103 dX2_keepTold_96 (by decide) (fun hc => absurd hc (nI_ge hlL (by omega))) (fun _ => ?_)
              refine x_iconst (v := 1) dX2_keepTold_99 (by decide) ?_
              refine x_goto 104 dX2_keepTold_100 (by decide) ?_
              exact x_wk (fin true _ hq) ⟨rfl, rfl, rfl, rfl, rfl, rfl, rfl, rfl, trivial⟩
            · rw [decide_eq_false hlL] at hq
              refine x_icmp_ge 103 dX2_keepTold_96 (by decide) (fun _ => ?_) (fun hc => absurd (nI_le (by omega) (by omega)) hc)
              refine x_iconst (v := 0) dX2_keepTold_103 (by decide) ?_
              exact x_wk (fin false _ hq) ⟨rfl, rfl, rfl, rfl, rfl, rfl, rfl, rfl, trivial⟩
          · have hw1 : w = 1 := nI_inj (b := 1) (by omega) (by decide) hc
            rw [if_pos hw1] at hq
            refine x_iload dX2_keepTold_78 rfl ?_
            cases ag with
            | true =>
              refine x_if_ne 87 dX2_keepTold_80 (by decide) (fun _ => ?_) (fun hc => absurd hc (by decide))
              refine x_iconst (v := 0) dX2_keepTold_87 (by decide) ?_
              refine x_goto 104 dX2_keepTold_88 (by decide) ?_
              exact x_wk (fin false _ hq) ⟨rfl, rfl, rfl, rfl, rfl, rfl, rfl, rfl, trivial⟩
            | false =>
              refine x_if_ne 87 dX2_keepTold_80 (by decide) (fun hc => absurd (rfl) hc) (fun _ => ?_)
              refine x_iconst (v := 1) dX2_keepTold_83 (by decide) ?_
              refine x_goto 104 dX2_keepTold_84 (by decide) ?_
              exact x_wk (fin true _ hq) ⟨rfl, rfl, rfl, rfl, rfl, rfl, rfl, rfl, trivial⟩
        cases hb : lp1.testBit p with
        | true =>
          refine x_icmp_ne 67 dX2_keepTold_60 (by decide) (fun hc => absurd (rfl) hc) (fun _ => ?_)
          refine x_iconst (v := 1) dX2_keepTold_63 (by decide) ?_
          refine x_goto 68 dX2_keepTold_64 (by decide) ?_
          exact x_wk (mid true hb.symm) ⟨rfl, rfl, rfl, rfl, rfl, rfl, rfl, trivial⟩
        | false =>
          refine x_icmp_ne 67 dX2_keepTold_60 (by decide) (fun _ => ?_) (fun hc => absurd hc (by decide))
          refine x_iconst (v := 0) dX2_keepTold_67 (by decide) ?_
          exact x_wk (mid false hb.symm) ⟨rfl, rfl, rfl, rfl, rfl, rfl, rfl, trivial⟩
    cases hs : sgt W U (i + 1) with
    | true =>
      simp only [hs, if_true] at hq
      refine x_if_eq 30 dX2_keepTold_22 (by decide) (fun hc => absurd hc (by decide)) (fun _ => ?_)
      refine x_iconst (v := 0) dX2_keepTold_25 (by decide) ?_
      refine x_istore_n (i := 3) dX2_keepTold_26 rfl (by decide) ?_
      refine x_iconst (v := 0) dX2_keepTold_27 (by decide) ?_
      refine x_istore dX2_keepTold_28 (by decide) ?_
      exact x_wk (tail 0 0 (by omega) (by decide) hq) ⟨rfl, rfl, rfl, rfl, rfl, rfl, trivial⟩
    | false =>
      simp only [hs, Bool.false_eq_true, if_false] at hq
      refine x_if_eq 30 dX2_keepTold_22 (by decide) (fun _ => ?_) (fun hc => absurd (rfl) hc)
      exact x_wk (tail lt lp (by omega) hlp hq) ⟨rfl, rfl, rfl, rfl, rfl, rfl, trivial⟩
set_option maxRecDepth 100000 in
set_option maxHeartbeats 4000000 in
theorem cR_keep (d : Nat) (h : x_H) {n : Nat} {cs : Nat → Nat} (hD : h 1 = x_dy n) (hG : h 2 = x_sg cs) (hok : okD n cs) {L w q : Nat} (hS : h 3 = x_stK 4 5 6 L w q) (hL9 : L ≤ 9) (hw : w ≤ 2) {fr wy ak ls : Int32} {W U : Nat → Nat} (hR : h 10 = x_sr fr wy ak ls) (hW : h 17 = x_na 41 W) (hU : h 18 = x_na 41 U) (hW8 : ∀ j, W j < 256) (hU8 : ∀ j, U j < 256) {T : Nat → Option Nat} (hT : h 19 = x_oa 40 T) :
    x_Ct (d + 2) mX2_keepTold [.ref 10, .ref 1, .ref 3] h (fun r h' => r = none ∧ h' = x_up h 19 (x_oa 40 (ktA n cs w L W U 40 0 0 T))) := by
  refine x_enter pnX2_keepTold (Nat.le_of_ble_eq_true rfl) ?_
  refine x_iconst (v := 0) dX2_keepTold_0 (by decide) ?_
  refine x_istore_n (i := 3) dX2_keepTold_1 rfl (by decide) ?_
  refine x_iconst (v := 0) dX2_keepTold_2 (by decide) ?_
  refine x_istore dX2_keepTold_3 (by decide) ?_
  refine x_bipush (v := 39) dX2_keepTold_5 (by decide) ?_
  refine x_istore dX2_keepTold_7 (by decide) ?_
  refine x_hp (h' := x_up h 19 (x_oa 40 T)) (by rw [x_up_eta hT]) ?_
  exact x_wk (cR_keep_loop d h hD hG hok hS hL9 hw hR hW hU hW8 hU8 _ 40 0 0 T (by omega) (by omega) (by decide) ⟨rfl, rfl⟩) ⟨rfl, rfl, rfl, rfl, rfl, rfl, trivial⟩
