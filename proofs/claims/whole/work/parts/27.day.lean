/-- the first fault from event i on, when so many ? came before -/
def ffA (cs : Nat → Nat) : Nat → Nat → Nat → Option Nat
  | 0, _, _ => none
  | f + 1, i, a => if cs i = 63 then (if 4 < a + 1 then some i else ffA cs f (i + 1) (a + 1)) else if crN (cs i) = none ∧ lkN (cs i) = none then some i else ffA cs f (i + 1) a
def ff (n : Nat) (cs : Nat → Nat) : Option Nat := ffA cs n 0 0
def fI : Option Nat → Int32
  | some i => nI i
  | none => -6
def anyF (p : Nat → Bool) : Nat → Nat → Bool
  | 0, _ => false
  | f + 1, i => p i || anyF p f (i + 1)
def cntF (p : Nat → Bool) : Nat → Nat → Nat
  | 0, _ => 0
  | f + 1, i => (if p i then 1 else 0) + cntF p f (i + 1)
theorem cntF_le (p : Nat → Bool) : ∀ f i, cntF p f i ≤ f
  | 0, _ => Nat.le_refl _
  | f + 1, i => by
    have := cntF_le p f (i + 1)
    simp only [cntF]
    split <;> omega
set_option maxRecDepth 100000 in
set_option maxHeartbeats 4000000 in
theorem cD_firstFault_loop (d : Nat) (h : x_H) {n : Nat} {cs : Nat → Nat} (hD : h 1 = x_dy n) (hG : h 2 = x_sg cs) (hok : okD n cs) (Q : Option Value → x_H → Prop) :
    ∀ (f i a : Nat), i + f = n → a ≤ 4 → Q (some (.int (fI (ffA cs f i a)))) h → x_V (d + 2) mX1_firstFault 4 (x_ls [some (.ref 1), some (.int (nI a)), some (.int (nI i))]) [] h Q := by
  have hn := hok.1
  intro f
  induction f with
  | zero =>
    intro i a hi ha hq
    refine x_iload_n (i := 2) dX1_firstFault_4 rfl rfl ?_
    refine x_aload_n (i := 0) dX1_firstFault_5 rfl rfl ?_
    refine x_get flX1_15 dX1_firstFault_6 (by first | decide | assumption) (by first | assumption | exact x_up_s | (refine (x_up_n (by first | decide | assumption)).trans ?_; first | assumption | exact x_up_s | (refine (x_up_n (by first | decide | assumption)).trans ?_; first | assumption | exact x_up_s | (refine (x_up_n (by first | decide | assumption)).trans ?_; first | assumption | exact x_up_s | (refine (x_up_n (by first | decide | assumption)).trans ?_; first | assumption | exact x_up_s | (refine (x_up_n (by first | decide | assumption)).trans ?_; first | assumption | exact x_up_s | (refine (x_up_n (by first | decide | assumption)).trans ?_; first | assumption | exact x_up_s | (refine (x_up_n (by first | decide | assumption)).trans ?_; first | assumption | exact x_up_s | (refine (x_up_n (by first | decide | assumption)).trans ?_; first | assumption | exact x_up_s | (refine (x_up_n (by first | decide | assumption)).trans ?_; first | assumption | exact x_up_s | (refine (x_up_n (by first | decide | assumption)).trans ?_; first | assumption | exact x_up_s | (refine (x_up_n (by first | decide | assumption)).trans ?_; first | assumption | exact x_up_s | (refine (x_up_n (by first | decide | assumption)).trans ?_; first | assumption | exact x_up_s | (refine (x_up_n (by first | decide | assumption)).trans ?_; first | assumption | exact x_up_s)))))))))))))) rfl ?_
    refine x_icmp_ge 56 dX1_firstFault_9 (by decide) (fun _ => ?_) (fun hc => absurd (nI_le (by omega) (by omega)) hc)
    refine x_bipush (v := (-6)) dX1_firstFault_56 (by decide) ?_
    refine x_iret dX1_firstFault_58 rfl hq
  | succ f ih =>
    intro i a hi ha hq
    have hcd : cd n cs (nI i) = cs i := cd_in (by omega) hn
    rw [ffA] at hq
    refine x_iload_n (i := 2) dX1_firstFault_4 rfl rfl ?_
    refine x_aload_n (i := 0) dX1_firstFault_5 rfl rfl ?_
    refine x_get flX1_15 dX1_firstFault_6 (by first | decide | assumption) (by first | assumption | exact x_up_s | (refine (x_up_n (by first | decide | assumption)).trans ?_; first | assumption | exact x_up_s | (refine (x_up_n (by first | decide | assumption)).trans ?_; first | assumption | exact x_up_s | (refine (x_up_n (by first | decide | assumption)).trans ?_; first | assumption | exact x_up_s | (refine (x_up_n (by first | decide | assumption)).trans ?_; first | assumption | exact x_up_s | (refine (x_up_n (by first | decide | assumption)).trans ?_; first | assumption | exact x_up_s | (refine (x_up_n (by first | decide | assumption)).trans ?_; first | assumption | exact x_up_s | (refine (x_up_n (by first | decide | assumption)).trans ?_; first | assumption | exact x_up_s | (refine (x_up_n (by first | decide | assumption)).trans ?_; first | assumption | exact x_up_s | (refine (x_up_n (by first | decide | assumption)).trans ?_; first | assumption | exact x_up_s | (refine (x_up_n (by first | decide | assumption)).trans ?_; first | assumption | exact x_up_s | (refine (x_up_n (by first | decide | assumption)).trans ?_; first | assumption | exact x_up_s | (refine (x_up_n (by first | decide | assumption)).trans ?_; first | assumption | exact x_up_s | (refine (x_up_n (by first | decide | assumption)).trans ?_; first | assumption | exact x_up_s)))))))))))))) rfl ?_
    refine x_icmp_ge 56 dX1_firstFault_9 (by decide) (fun hc => absurd hc (nI_ge (by omega) (by omega))) (fun _ => ?_)
    refine x_aload_n (i := 0) dX1_firstFault_12 rfl rfl ?_
    refine x_iload_n (i := 2) dX1_firstFault_13 rfl rfl ?_
    refine x_invV clX1_30 dX1_firstFault_14 (cD_isAsked d h hD hG hok (nI i)) (by omega) rfl (by first | decide | assumption) (by first | assumption | exact x_up_s | (refine (x_up_n (by first | decide | assumption)).trans ?_; first | assumption | exact x_up_s | (refine (x_up_n (by first | decide | assumption)).trans ?_; first | assumption | exact x_up_s | (refine (x_up_n (by first | decide | assumption)).trans ?_; first | assumption | exact x_up_s | (refine (x_up_n (by first | decide | assumption)).trans ?_; first | assumption | exact x_up_s | (refine (x_up_n (by first | decide | assumption)).trans ?_; first | assumption | exact x_up_s | (refine (x_up_n (by first | decide | assumption)).trans ?_; first | assumption | exact x_up_s | (refine (x_up_n (by first | decide | assumption)).trans ?_; first | assumption | exact x_up_s | (refine (x_up_n (by first | decide | assumption)).trans ?_; first | assumption | exact x_up_s | (refine (x_up_n (by first | decide | assumption)).trans ?_; first | assumption | exact x_up_s | (refine (x_up_n (by first | decide | assumption)).trans ?_; first | assumption | exact x_up_s | (refine (x_up_n (by first | decide | assumption)).trans ?_; first | assumption | exact x_up_s | (refine (x_up_n (by first | decide | assumption)).trans ?_; first | assumption | exact x_up_s | (refine (x_up_n (by first | decide | assumption)).trans ?_; first | assumption | exact x_up_s)))))))))))))) rfl (Nat.le_of_ble_eq_true rfl) ?_
    rintro r h' ⟨rfl, rfl⟩
    rw [hcd]
    by_cases h63 : cs i = 63
    · rw [if_pos h63] at hq
      rw [show (cs i == 63) = true by rw [h63]; rfl]
      refine x_if_eq 30 dX1_firstFault_17 (by decide) (fun hc => absurd hc (by decide)) (fun _ => ?_)
      first | refine x_incN dX1_firstFault_20 rfl (by decide) ?_ | refine x_iinc dX1_firstFault_20 rfl rfl (by decide) ?_
      refine x_iload_n (i := 1) dX1_firstFault_23 rfl rfl ?_
      refine x_iconst (v := 4) dX1_firstFault_24 (by decide) ?_
      refine x_icmp_le 50 dX1_firstFault_25 (by decide) (fun hc => ?_) (fun hc => ?_)
      · have : ¬ 4 < a + 1 := by have := (nI_leI (b := 4) (by omega) (by decide)).mp hc; omega
        rw [if_neg this] at hq
        first | refine x_incN dX1_firstFault_50 rfl (by decide) ?_ | refine x_iinc dX1_firstFault_50 rfl rfl (by decide) ?_
        refine x_goto 4 dX1_firstFault_53 (by decide) ?_
        exact x_wk (ih (i + 1) (a + 1) (by omega) (by omega) hq) ⟨rfl, rfl, rfl, trivial⟩
      · have : 4 < a + 1 := by
          rcases Nat.lt_or_ge 4 (a + 1) with q | q
          · exact q
          · exact absurd (nI_le (b := 4) q (by decide)) hc
        rw [if_pos this] at hq
        refine x_iload_n (i := 2) dX1_firstFault_28 rfl rfl ?_
        refine x_iret dX1_firstFault_29 rfl hq
    · rw [if_neg h63] at hq
      rw [show (cs i == 63) = false by rw [beq_eq_false_iff_ne]; exact h63]
      refine x_if_eq 30 dX1_firstFault_17 (by decide) (fun _ => ?_) (fun hc => absurd (rfl) hc)
      refine x_aload_n (i := 0) dX1_firstFault_30 rfl rfl ?_
      refine x_iload_n (i := 2) dX1_firstFault_31 rfl rfl ?_
      refine x_invV clX1_33 dX1_firstFault_32 (cD_crosser d h' hD hG hok (nI i)) (by omega) rfl (by first | decide | assumption) (by first | assumption | exact x_up_s | (refine (x_up_n (by first | decide | assumption)).trans ?_; first | assumption | exact x_up_s | (refine (x_up_n (by first | decide | assumption)).trans ?_; first | assumption | exact x_up_s | (refine (x_up_n (by first | decide | assumption)).trans ?_; first | assumption | exact x_up_s | (refine (x_up_n (by first | decide | assumption)).trans ?_; first | assumption | exact x_up_s | (refine (x_up_n (by first | decide | assumption)).trans ?_; first | assumption | exact x_up_s | (refine (x_up_n (by first | decide | assumption)).trans ?_; first | assumption | exact x_up_s | (refine (x_up_n (by first | decide | assumption)).trans ?_; first | assumption | exact x_up_s | (refine (x_up_n (by first | decide | assumption)).trans ?_; first | assumption | exact x_up_s | (refine (x_up_n (by first | decide | assumption)).trans ?_; first | assumption | exact x_up_s | (refine (x_up_n (by first | decide | assumption)).trans ?_; first | assumption | exact x_up_s | (refine (x_up_n (by first | decide | assumption)).trans ?_; first | assumption | exact x_up_s | (refine (x_up_n (by first | decide | assumption)).trans ?_; first | assumption | exact x_up_s | (refine (x_up_n (by first | decide | assumption)).trans ?_; first | assumption | exact x_up_s)))))))))))))) rfl (Nat.le_of_ble_eq_true rfl) ?_
      rintro r h'' ⟨rfl, rfl⟩
      rw [hcd]
      refine x_iconst (v := (-1)) dX1_firstFault_35 (by decide) ?_
      refine x_icmp_ne 50 dX1_firstFault_36 (by decide) (fun hc => ?_) (fun hc => ?_)
      · rw [if_neg (fun q => hc ((cr_m1 _).mpr q.1))] at hq
        first | refine x_incN dX1_firstFault_50 rfl (by decide) ?_ | refine x_iinc dX1_firstFault_50 rfl rfl (by decide) ?_
        refine x_goto 4 dX1_firstFault_53 (by decide) ?_
        exact x_wk (ih (i + 1) a (by omega) (by omega) hq) ⟨rfl, rfl, rfl, trivial⟩
      · refine x_aload_n (i := 0) dX1_firstFault_39 rfl rfl ?_
        refine x_iload_n (i := 2) dX1_firstFault_40 rfl rfl ?_
        refine x_invV clX1_27 dX1_firstFault_41 (cD_looker d h'' hD hG hok (nI i)) (by omega) rfl (by first | decide | assumption) (by first | assumption | exact x_up_s | (refine (x_up_n (by first | decide | assumption)).trans ?_; first | assumption | exact x_up_s | (refine (x_up_n (by first | decide | assumption)).trans ?_; first | assumption | exact x_up_s | (refine (x_up_n (by first | decide | assumption)).trans ?_; first | assumption | exact x_up_s | (refine (x_up_n (by first | decide | assumption)).trans ?_; first | assumption | exact x_up_s | (refine (x_up_n (by first | decide | assumption)).trans ?_; first | assumption | exact x_up_s | (refine (x_up_n (by first | decide | assumption)).trans ?_; first | assumption | exact x_up_s | (refine (x_up_n (by first | decide | assumption)).trans ?_; first | assumption | exact x_up_s | (refine (x_up_n (by first | decide | assumption)).trans ?_; first | assumption | exact x_up_s | (refine (x_up_n (by first | decide | assumption)).trans ?_; first | assumption | exact x_up_s | (refine (x_up_n (by first | decide | assumption)).trans ?_; first | assumption | exact x_up_s | (refine (x_up_n (by first | decide | assumption)).trans ?_; first | assumption | exact x_up_s | (refine (x_up_n (by first | decide | assumption)).trans ?_; first | assumption | exact x_up_s | (refine (x_up_n (by first | decide | assumption)).trans ?_; first | assumption | exact x_up_s)))))))))))))) rfl (Nat.le_of_ble_eq_true rfl) ?_
        rintro r h3 ⟨rfl, rfl⟩
        rw [hcd]
        refine x_iconst (v := (-1)) dX1_firstFault_44 (by decide) ?_
        refine x_icmp_ne 50 dX1_firstFault_45 (by decide) (fun hd => ?_) (fun hd => ?_)
        · rw [if_neg (fun q => hd ((lk_m1 _).mpr q.2))] at hq
          first | refine x_incN dX1_firstFault_50 rfl (by decide) ?_ | refine x_iinc dX1_firstFault_50 rfl rfl (by decide) ?_
          refine x_goto 4 dX1_firstFault_53 (by decide) ?_
          exact x_wk (ih (i + 1) a (by omega) (by omega) hq) ⟨rfl, rfl, rfl, trivial⟩
        · rw [if_pos ⟨(cr_m1 _).mp hc, (lk_m1 _).mp hd⟩] at hq
          refine x_iload_n (i := 2) dX1_firstFault_48 rfl rfl ?_
          refine x_iret dX1_firstFault_49 rfl hq
set_option maxRecDepth 100000 in
set_option maxHeartbeats 4000000 in
theorem cD_firstFault (d : Nat) (h : x_H) {n : Nat} {cs : Nat → Nat} (hD : h 1 = x_dy n) (hG : h 2 = x_sg cs) (hok : okD n cs) : x_Ct (d + 2) mX1_firstFault [.ref 1] h (fun r h' => r = some (.int (fI (ff n cs))) ∧ h' = h) := by
  refine x_enter pnX1_firstFault (Nat.le_of_ble_eq_true rfl) ?_
  refine x_iconst (v := 0) dX1_firstFault_0 (by decide) ?_
  refine x_istore_n (i := 1) dX1_firstFault_1 rfl (by decide) ?_
  refine x_iconst (v := 0) dX1_firstFault_2 (by decide) ?_
  refine x_istore_n (i := 2) dX1_firstFault_3 rfl (by decide) ?_
  exact x_wk (cD_firstFault_loop d h hD hG hok _ n 0 0 (by omega) (by omega) ⟨rfl, rfl⟩) ⟨rfl, rfl, rfl, trivial⟩
def askP (cs : Nat → Nat) (j : Nat) : Bool := cs j == 63
set_option maxRecDepth 100000 in
set_option maxHeartbeats 4000000 in
theorem cD_asksWithin_loop (d : Nat) (h : x_H) {n : Nat} {cs : Nat → Nat} (hD : h 1 = x_dy n) (hG : h 2 = x_sg cs) (hok : okD n cs) (e : Nat) (he : e ≤ n) (Q : Option Value → x_H → Prop) :
    ∀ (f i : Nat), i + f = e → Q (some (.int (b2I (anyF (askP cs) f i)))) h → x_V (d + 2) mX1_asksWithin 2 (x_ls [some (.ref 1), some (.int (nI e)), some (.int (nI i))]) [] h Q := by
  have hn := hok.1
  intro f
  induction f with
  | zero =>
    intro i hi hq
    refine x_iload_n (i := 2) dX1_asksWithin_2 rfl rfl ?_
    refine x_iload_n (i := 1) dX1_asksWithin_3 rfl rfl ?_
    refine x_icmp_ge 23 dX1_asksWithin_4 (by decide) (fun _ => ?_) (fun hc => absurd (nI_le (by omega) (by omega)) hc)
    refine x_iconst (v := 0) dX1_asksWithin_23 (by decide) ?_
    refine x_zret dX1_asksWithin_24 rfl (by first | rfl | decide | assumption) hq
  | succ f ih =>
    intro i hi hq
    have hcd : cd n cs (nI i) = cs i := cd_in (by omega) hn
    rw [anyF] at hq
    refine x_iload_n (i := 2) dX1_asksWithin_2 rfl rfl ?_
    refine x_iload_n (i := 1) dX1_asksWithin_3 rfl rfl ?_
    refine x_icmp_ge 23 dX1_asksWithin_4 (by decide) (fun hc => absurd hc (nI_ge (by omega) (by omega))) (fun _ => ?_)
    refine x_aload_n (i := 0) dX1_asksWithin_7 rfl rfl ?_
    refine x_iload_n (i := 2) dX1_asksWithin_8 rfl rfl ?_
    refine x_invV clX1_30 dX1_asksWithin_9 (cD_isAsked d h hD hG hok (nI i)) (by omega) rfl (by first | decide | assumption) (by first | assumption | exact x_up_s | (refine (x_up_n (by first | decide | assumption)).trans ?_; first | assumption | exact x_up_s | (refine (x_up_n (by first | decide | assumption)).trans ?_; first | assumption | exact x_up_s | (refine (x_up_n (by first | decide | assumption)).trans ?_; first | assumption | exact x_up_s | (refine (x_up_n (by first | decide | assumption)).trans ?_; first | assumption | exact x_up_s | (refine (x_up_n (by first | decide | assumption)).trans ?_; first | assumption | exact x_up_s | (refine (x_up_n (by first | decide | assumption)).trans ?_; first | assumption | exact x_up_s | (refine (x_up_n (by first | decide | assumption)).trans ?_; first | assumption | exact x_up_s | (refine (x_up_n (by first | decide | assumption)).trans ?_; first | assumption | exact x_up_s | (refine (x_up_n (by first | decide | assumption)).trans ?_; first | assumption | exact x_up_s | (refine (x_up_n (by first | decide | assumption)).trans ?_; first | assumption | exact x_up_s | (refine (x_up_n (by first | decide | assumption)).trans ?_; first | assumption | exact x_up_s | (refine (x_up_n (by first | decide | assumption)).trans ?_; first | assumption | exact x_up_s | (refine (x_up_n (by first | decide | assumption)).trans ?_; first | assumption | exact x_up_s)))))))))))))) rfl (Nat.le_of_ble_eq_true rfl) ?_
    rintro r h' ⟨rfl, rfl⟩
    rw [hcd]
    cases hb : askP cs i with
    | true =>
      rw [hb] at hq
      rw [show (cs i == 63) = true from hb]
      refine x_if_eq 17 dX1_asksWithin_12 (by decide) (fun hc => absurd hc (by decide)) (fun _ => ?_)
      refine x_iconst (v := 1) dX1_asksWithin_15 (by decide) ?_
      refine x_zret dX1_asksWithin_16 rfl (by first | rfl | decide | assumption) hq
    | false =>
      rw [hb, Bool.false_or] at hq
      rw [show (cs i == 63) = false from hb]
      refine x_if_eq 17 dX1_asksWithin_12 (by decide) (fun _ => ?_) (fun hc => absurd (rfl) hc)
      first | refine x_incN dX1_asksWithin_17 rfl (by decide) ?_ | refine x_iinc dX1_asksWithin_17 rfl rfl (by decide) ?_
      refine x_goto 2 dX1_asksWithin_20 (by decide) ?_
      exact x_wk (ih (i + 1) (by omega) hq) ⟨rfl, rfl, rfl, trivial⟩
set_option maxRecDepth 100000 in
set_option maxHeartbeats 4000000 in
theorem cD_asksWithin (d : Nat) (h : x_H) {n : Nat} {cs : Nat → Nat} (hD : h 1 = x_dy n) (hG : h 2 = x_sg cs) (hok : okD n cs) (e : Nat) (he : e ≤ n) : x_Ct (d + 2) mX1_asksWithin [.ref 1, .int (nI e)] h (fun r h' => r = some (.int (b2I (anyF (askP cs) e 0))) ∧ h' = h) := by
  refine x_enter pnX1_asksWithin (Nat.le_of_ble_eq_true rfl) ?_
  refine x_iconst (v := 0) dX1_asksWithin_0 (by decide) ?_
  refine x_istore_n (i := 2) dX1_asksWithin_1 rfl (by decide) ?_
  exact x_wk (cD_asksWithin_loop d h hD hG hok e he _ e 0 (by omega) ⟨rfl, rfl⟩) ⟨rfl, rfl, rfl, trivial⟩
set_option maxRecDepth 100000 in
set_option maxHeartbeats 4000000 in
theorem cD_looksOf_loop (d : Nat) (h : x_H) {n : Nat} {cs : Nat → Nat} (hD : h 1 = x_dy n) (hG : h 2 = x_sg cs) (hok : okD n cs) (m : Nat) (hm : m < 2 ^ 31) (Q : Option Value → x_H → Prop) :
    ∀ (f i a : Nat), i + f = n → Q (some (.int (nI (a + cntF (fun j => lk1 m (cs j)) f i)))) h → x_V (d + 3) mX1_looksOf 4 (x_ls [some (.ref 1), some (.int (nI m)), some (.int (nI a)), some (.int (nI i))]) [] h Q := by
  have hn := hok.1
  intro f
  induction f with
  | zero =>
    intro i a hi hq
    refine x_iload_n (i := 3) dX1_looksOf_4 rfl rfl ?_
    refine x_aload_n (i := 0) dX1_looksOf_5 rfl rfl ?_
    refine x_get flX1_15 dX1_looksOf_6 (by first | decide | assumption) (by first | assumption | exact x_up_s | (refine (x_up_n (by first | decide | assumption)).trans ?_; first | assumption | exact x_up_s | (refine (x_up_n (by first | decide | assumption)).trans ?_; first | assumption | exact x_up_s | (refine (x_up_n (by first | decide | assumption)).trans ?_; first | assumption | exact x_up_s | (refine (x_up_n (by first | decide | assumption)).trans ?_; first | assumption | exact x_up_s | (refine (x_up_n (by first | decide | assumption)).trans ?_; first | assumption | exact x_up_s | (refine (x_up_n (by first | decide | assumption)).trans ?_; first | assumption | exact x_up_s | (refine (x_up_n (by first | decide | assumption)).trans ?_; first | assumption | exact x_up_s | (refine (x_up_n (by first | decide | assumption)).trans ?_; first | assumption | exact x_up_s | (refine (x_up_n (by first | decide | assumption)).trans ?_; first | assumption | exact x_up_s | (refine (x_up_n (by first | decide | assumption)).trans ?_; first | assumption | exact x_up_s | (refine (x_up_n (by first | decide | assumption)).trans ?_; first | assumption | exact x_up_s | (refine (x_up_n (by first | decide | assumption)).trans ?_; first | assumption | exact x_up_s | (refine (x_up_n (by first | decide | assumption)).trans ?_; first | assumption | exact x_up_s)))))))))))))) rfl ?_
    refine x_icmp_ge 30 dX1_looksOf_9 (by decide) (fun _ => ?_) (fun hc => absurd (nI_le (by omega) (by omega)) hc)
    refine x_iload_n (i := 2) dX1_looksOf_30 rfl rfl ?_
    refine x_iret dX1_looksOf_31 rfl hq
  | succ f ih =>
    intro i a hi hq
    have hcd : cd n cs (nI i) = cs i := cd_in (by omega) hn
    rw [cntF] at hq
    refine x_iload_n (i := 3) dX1_looksOf_4 rfl rfl ?_
    refine x_aload_n (i := 0) dX1_looksOf_5 rfl rfl ?_
    refine x_get flX1_15 dX1_looksOf_6 (by first | decide | assumption) (by first | assumption | exact x_up_s | (refine (x_up_n (by first | decide | assumption)).trans ?_; first | assumption | exact x_up_s | (refine (x_up_n (by first | decide | assumption)).trans ?_; first | assumption | exact x_up_s | (refine (x_up_n (by first | decide | assumption)).trans ?_; first | assumption | exact x_up_s | (refine (x_up_n (by first | decide | assumption)).trans ?_; first | assumption | exact x_up_s | (refine (x_up_n (by first | decide | assumption)).trans ?_; first | assumption | exact x_up_s | (refine (x_up_n (by first | decide | assumption)).trans ?_; first | assumption | exact x_up_s | (refine (x_up_n (by first | decide | assumption)).trans ?_; first | assumption | exact x_up_s | (refine (x_up_n (by first | decide | assumption)).trans ?_; first | assumption | exact x_up_s | (refine (x_up_n (by first | decide | assumption)).trans ?_; first | assumption | exact x_up_s | (refine (x_up_n (by first | decide | assumption)).trans ?_; first | assumption | exact x_up_s | (refine (x_up_n (by first | decide | assumption)).trans ?_; first | assumption | exact x_up_s | (refine (x_up_n (by first | decide | assumption)).trans ?_; first | assumption | exact x_up_s | (refine (x_up_n (by first | decide | assumption)).trans ?_; first | assumption | exact x_up_s)))))))))))))) rfl ?_
    refine x_icmp_ge 30 dX1_looksOf_9 (by decide) (fun hc => absurd hc (nI_ge (by omega) (by omega))) (fun _ => ?_)
    refine x_aload_n (i := 0) dX1_looksOf_12 rfl rfl ?_
    refine x_iload_n (i := 3) dX1_looksOf_13 rfl rfl ?_
    refine x_iload_n (i := 1) dX1_looksOf_14 rfl rfl ?_
    refine x_invV clX1_36 dX1_looksOf_15 (cD_looksOneOf d h hD hG hok (nI i) m hm) (by omega) rfl (by first | decide | assumption) (by first | assumption | exact x_up_s | (refine (x_up_n (by first | decide | assumption)).trans ?_; first | assumption | exact x_up_s | (refine (x_up_n (by first | decide | assumption)).trans ?_; first | assumption | exact x_up_s | (refine (x_up_n (by first | decide | assumption)).trans ?_; first | assumption | exact x_up_s | (refine (x_up_n (by first | decide | assumption)).trans ?_; first | assumption | exact x_up_s | (refine (x_up_n (by first | decide | assumption)).trans ?_; first | assumption | exact x_up_s | (refine (x_up_n (by first | decide | assumption)).trans ?_; first | assumption | exact x_up_s | (refine (x_up_n (by first | decide | assumption)).trans ?_; first | assumption | exact x_up_s | (refine (x_up_n (by first | decide | assumption)).trans ?_; first | assumption | exact x_up_s | (refine (x_up_n (by first | decide | assumption)).trans ?_; first | assumption | exact x_up_s | (refine (x_up_n (by first | decide | assumption)).trans ?_; first | assumption | exact x_up_s | (refine (x_up_n (by first | decide | assumption)).trans ?_; first | assumption | exact x_up_s | (refine (x_up_n (by first | decide | assumption)).trans ?_; first | assumption | exact x_up_s | (refine (x_up_n (by first | decide | assumption)).trans ?_; first | assumption | exact x_up_s)))))))))))))) rfl (Nat.le_of_ble_eq_true rfl) ?_
    rintro r h' ⟨rfl, rfl⟩
    rw [hcd]
    cases hb : lk1 m (cs i) with
    | true =>
      simp only [hb, if_true] at hq
      refine x_if_eq 24 dX1_looksOf_18 (by decide) (fun hc => absurd hc (by decide)) (fun _ => ?_)
      first | refine x_incN dX1_looksOf_21 rfl (by decide) ?_ | refine x_iinc dX1_looksOf_21 rfl rfl (by decide) ?_
      first | refine x_incN dX1_looksOf_24 rfl (by decide) ?_ | refine x_iinc dX1_looksOf_24 rfl rfl (by decide) ?_
      refine x_goto 4 dX1_looksOf_27 (by decide) ?_
      exact x_wk (ih (i + 1) (a + 1) (by omega) (by rw [Nat.add_assoc]; exact hq)) ⟨rfl, rfl, rfl, rfl, trivial⟩
    | false =>
      simp only [hb, Bool.false_eq_true, if_false, Nat.zero_add] at hq
      refine x_if_eq 24 dX1_looksOf_18 (by decide) (fun _ => ?_) (fun hc => absurd (rfl) hc)
      first | refine x_incN dX1_looksOf_24 rfl (by decide) ?_ | refine x_iinc dX1_looksOf_24 rfl rfl (by decide) ?_
      refine x_goto 4 dX1_looksOf_27 (by decide) ?_
      exact x_wk (ih (i + 1) a (by omega) hq) ⟨rfl, rfl, rfl, rfl, trivial⟩
set_option maxRecDepth 100000 in
set_option maxHeartbeats 4000000 in
theorem cD_looksOf (d : Nat) (h : x_H) {n : Nat} {cs : Nat → Nat} (hD : h 1 = x_dy n) (hG : h 2 = x_sg cs) (hok : okD n cs) (m : Nat) (hm : m < 2 ^ 31) : x_Ct (d + 3) mX1_looksOf [.ref 1, .int (nI m)] h (fun r h' => r = some (.int (nI (cntF (fun j => lk1 m (cs j)) n 0))) ∧ h' = h) := by
  refine x_enter pnX1_looksOf (Nat.le_of_ble_eq_true rfl) ?_
  refine x_iconst (v := 0) dX1_looksOf_0 (by decide) ?_
  refine x_istore_n (i := 2) dX1_looksOf_1 rfl (by decide) ?_
  refine x_iconst (v := 0) dX1_looksOf_2 (by decide) ?_
  refine x_istore_n (i := 3) dX1_looksOf_3 rfl (by decide) ?_
  exact x_wk (cD_looksOf_loop d h hD hG hok m hm _ n 0 0 (by omega) ⟨by rw [Nat.zero_add], rfl⟩) ⟨rfl, rfl, rfl, rfl, trivial⟩
def crP (cs : Nat → Nat) (j : Nat) : Bool := (crN (cs j)).isSome
set_option maxRecDepth 100000 in
set_option maxHeartbeats 4000000 in
theorem cD_crossings_loop (d : Nat) (h : x_H) {n : Nat} {cs : Nat → Nat} (hD : h 1 = x_dy n) (hG : h 2 = x_sg cs) (hok : okD n cs) (Q : Option Value → x_H → Prop) :
    ∀ (f i a : Nat), i + f = n → Q (some (.int (nI (a + cntF (crP cs) f i)))) h → x_V (d + 2) mX1_crossings 4 (x_ls [some (.ref 1), some (.int (nI a)), some (.int (nI i))]) [] h Q := by
  have hn := hok.1
  intro f
  induction f with
  | zero =>
    intro i a hi hq
    refine x_iload_n (i := 2) dX1_crossings_4 rfl rfl ?_
    refine x_aload_n (i := 0) dX1_crossings_5 rfl rfl ?_
    refine x_get flX1_15 dX1_crossings_6 (by first | decide | assumption) (by first | assumption | exact x_up_s | (refine (x_up_n (by first | decide | assumption)).trans ?_; first | assumption | exact x_up_s | (refine (x_up_n (by first | decide | assumption)).trans ?_; first | assumption | exact x_up_s | (refine (x_up_n (by first | decide | assumption)).trans ?_; first | assumption | exact x_up_s | (refine (x_up_n (by first | decide | assumption)).trans ?_; first | assumption | exact x_up_s | (refine (x_up_n (by first | decide | assumption)).trans ?_; first | assumption | exact x_up_s | (refine (x_up_n (by first | decide | assumption)).trans ?_; first | assumption | exact x_up_s | (refine (x_up_n (by first | decide | assumption)).trans ?_; first | assumption | exact x_up_s | (refine (x_up_n (by first | decide | assumption)).trans ?_; first | assumption | exact x_up_s | (refine (x_up_n (by first | decide | assumption)).trans ?_; first | assumption | exact x_up_s | (refine (x_up_n (by first | decide | assumption)).trans ?_; first | assumption | exact x_up_s | (refine (x_up_n (by first | decide | assumption)).trans ?_; first | assumption | exact x_up_s | (refine (x_up_n (by first | decide | assumption)).trans ?_; first | assumption | exact x_up_s | (refine (x_up_n (by first | decide | assumption)).trans ?_; first | assumption | exact x_up_s)))))))))))))) rfl ?_
    refine x_icmp_ge 30 dX1_crossings_9 (by decide) (fun _ => ?_) (fun hc => absurd (nI_le (by omega) (by omega)) hc)
    refine x_iload_n (i := 1) dX1_crossings_30 rfl rfl ?_
    refine x_iret dX1_crossings_31 rfl hq
  | succ f ih =>
    intro i a hi hq
    have hcd : cd n cs (nI i) = cs i := cd_in (by omega) hn
    rw [cntF] at hq
    refine x_iload_n (i := 2) dX1_crossings_4 rfl rfl ?_
    refine x_aload_n (i := 0) dX1_crossings_5 rfl rfl ?_
    refine x_get flX1_15 dX1_crossings_6 (by first | decide | assumption) (by first | assumption | exact x_up_s | (refine (x_up_n (by first | decide | assumption)).trans ?_; first | assumption | exact x_up_s | (refine (x_up_n (by first | decide | assumption)).trans ?_; first | assumption | exact x_up_s | (refine (x_up_n (by first | decide | assumption)).trans ?_; first | assumption | exact x_up_s | (refine (x_up_n (by first | decide | assumption)).trans ?_; first | assumption | exact x_up_s | (refine (x_up_n (by first | decide | assumption)).trans ?_; first | assumption | exact x_up_s | (refine (x_up_n (by first | decide | assumption)).trans ?_; first | assumption | exact x_up_s | (refine (x_up_n (by first | decide | assumption)).trans ?_; first | assumption | exact x_up_s | (refine (x_up_n (by first | decide | assumption)).trans ?_; first | assumption | exact x_up_s | (refine (x_up_n (by first | decide | assumption)).trans ?_; first | assumption | exact x_up_s | (refine (x_up_n (by first | decide | assumption)).trans ?_; first | assumption | exact x_up_s | (refine (x_up_n (by first | decide | assumption)).trans ?_; first | assumption | exact x_up_s | (refine (x_up_n (by first | decide | assumption)).trans ?_; first | assumption | exact x_up_s | (refine (x_up_n (by first | decide | assumption)).trans ?_; first | assumption | exact x_up_s)))))))))))))) rfl ?_
    refine x_icmp_ge 30 dX1_crossings_9 (by decide) (fun hc => absurd hc (nI_ge (by omega) (by omega))) (fun _ => ?_)
    refine x_aload_n (i := 0) dX1_crossings_12 rfl rfl ?_
    refine x_iload_n (i := 2) dX1_crossings_13 rfl rfl ?_
    refine x_invV clX1_33 dX1_crossings_14 (cD_crosser d h hD hG hok (nI i)) (by omega) rfl (by first | decide | assumption) (by first | assumption | exact x_up_s | (refine (x_up_n (by first | decide | assumption)).trans ?_; first | assumption | exact x_up_s | (refine (x_up_n (by first | decide | assumption)).trans ?_; first | assumption | exact x_up_s | (refine (x_up_n (by first | decide | assumption)).trans ?_; first | assumption | exact x_up_s | (refine (x_up_n (by first | decide | assumption)).trans ?_; first | assumption | exact x_up_s | (refine (x_up_n (by first | decide | assumption)).trans ?_; first | assumption | exact x_up_s | (refine (x_up_n (by first | decide | assumption)).trans ?_; first | assumption | exact x_up_s | (refine (x_up_n (by first | decide | assumption)).trans ?_; first | assumption | exact x_up_s | (refine (x_up_n (by first | decide | assumption)).trans ?_; first | assumption | exact x_up_s | (refine (x_up_n (by first | decide | assumption)).trans ?_; first | assumption | exact x_up_s | (refine (x_up_n (by first | decide | assumption)).trans ?_; first | assumption | exact x_up_s | (refine (x_up_n (by first | decide | assumption)).trans ?_; first | assumption | exact x_up_s | (refine (x_up_n (by first | decide | assumption)).trans ?_; first | assumption | exact x_up_s | (refine (x_up_n (by first | decide | assumption)).trans ?_; first | assumption | exact x_up_s)))))))))))))) rfl (Nat.le_of_ble_eq_true rfl) ?_
    rintro r h' ⟨rfl, rfl⟩
    rw [hcd]
    cases hb : crN (cs i) with
    | some p =>
      have := crN_lt hb
      simp only [crP, hb, Option.isSome_some, if_true] at hq
      refine x_iconst (v := (-1)) dX1_crossings_17 (by decide) ?_
      refine x_icmp_eq 24 dX1_crossings_18 (by decide) (fun hc => absurd hc (nI_neg1 (by omega))) (fun _ => ?_)
      first | refine x_incN dX1_crossings_21 rfl (by decide) ?_ | refine x_iinc dX1_crossings_21 rfl rfl (by decide) ?_
      first | refine x_incN dX1_crossings_24 rfl (by decide) ?_ | refine x_iinc dX1_crossings_24 rfl rfl (by decide) ?_
      refine x_goto 4 dX1_crossings_27 (by decide) ?_
      exact x_wk (ih (i + 1) (a + 1) (by omega) (by rw [Nat.add_assoc]; exact hq)) ⟨rfl, rfl, rfl, trivial⟩
    | none =>
      simp only [crP, hb, Option.isSome_none, Bool.false_eq_true, if_false, Nat.zero_add] at hq
      refine x_iconst (v := (-1)) dX1_crossings_17 (by decide) ?_
      refine x_icmp_eq 24 dX1_crossings_18 (by decide) (fun _ => ?_) (fun hc => absurd (rfl) hc)
      first | refine x_incN dX1_crossings_24 rfl (by decide) ?_ | refine x_iinc dX1_crossings_24 rfl rfl (by decide) ?_
      refine x_goto 4 dX1_crossings_27 (by decide) ?_
      exact x_wk (ih (i + 1) a (by omega) hq) ⟨rfl, rfl, rfl, trivial⟩
set_option maxRecDepth 100000 in
set_option maxHeartbeats 4000000 in
theorem cD_crossings (d : Nat) (h : x_H) {n : Nat} {cs : Nat → Nat} (hD : h 1 = x_dy n) (hG : h 2 = x_sg cs) (hok : okD n cs) : x_Ct (d + 2) mX1_crossings [.ref 1] h (fun r h' => r = some (.int (nI (cntF (crP cs) n 0))) ∧ h' = h) := by
  refine x_enter pnX1_crossings (Nat.le_of_ble_eq_true rfl) ?_
  refine x_iconst (v := 0) dX1_crossings_0 (by decide) ?_
  refine x_istore_n (i := 1) dX1_crossings_1 rfl (by decide) ?_
  refine x_iconst (v := 0) dX1_crossings_2 (by decide) ?_
  refine x_istore_n (i := 2) dX1_crossings_3 rfl (by decide) ?_
  exact x_wk (cD_crossings_loop d h hD hG hok _ n 0 0 (by omega) ⟨by rw [Nat.zero_add], rfl⟩) ⟨rfl, rfl, rfl, trivial⟩
/-- who crosses at all, as bits -/
def tcA (cs : Nat → Nat) : Nat → Nat → Nat → Nat
  | 0, _, a => a
  | f + 1, i, a => tcA cs f (i + 1) (match crN (cs i) with
    | some p => a ||| 2 ^ p
    | none => a)
set_option maxRecDepth 100000 in
set_option maxHeartbeats 4000000 in
theorem cD_toldCrossers_loop (d : Nat) (h : x_H) {n : Nat} {cs : Nat → Nat} (hD : h 1 = x_dy n) (hG : h 2 = x_sg cs) (hok : okD n cs) (Q : Option Value → x_H → Prop) :
    ∀ (f i a : Nat), i + f = n → Q (some (.int (nI (tcA cs f i a)))) h → x_V (d + 2) mX1_toldCrossers 4 (x_ls [some (.ref 1), some (.int (nI a)), some (.int (nI i))]) [] h Q := by
  have hn := hok.1
  intro f
  induction f with
  | zero =>
    intro i a hi hq
    refine x_iload_n (i := 2) dX1_toldCrossers_4 rfl rfl ?_
    refine x_aload_n (i := 0) dX1_toldCrossers_5 rfl rfl ?_
    refine x_get flX1_15 dX1_toldCrossers_6 (by first | decide | assumption) (by first | assumption | exact x_up_s | (refine (x_up_n (by first | decide | assumption)).trans ?_; first | assumption | exact x_up_s | (refine (x_up_n (by first | decide | assumption)).trans ?_; first | assumption | exact x_up_s | (refine (x_up_n (by first | decide | assumption)).trans ?_; first | assumption | exact x_up_s | (refine (x_up_n (by first | decide | assumption)).trans ?_; first | assumption | exact x_up_s | (refine (x_up_n (by first | decide | assumption)).trans ?_; first | assumption | exact x_up_s | (refine (x_up_n (by first | decide | assumption)).trans ?_; first | assumption | exact x_up_s | (refine (x_up_n (by first | decide | assumption)).trans ?_; first | assumption | exact x_up_s | (refine (x_up_n (by first | decide | assumption)).trans ?_; first | assumption | exact x_up_s | (refine (x_up_n (by first | decide | assumption)).trans ?_; first | assumption | exact x_up_s | (refine (x_up_n (by first | decide | assumption)).trans ?_; first | assumption | exact x_up_s | (refine (x_up_n (by first | decide | assumption)).trans ?_; first | assumption | exact x_up_s | (refine (x_up_n (by first | decide | assumption)).trans ?_; first | assumption | exact x_up_s | (refine (x_up_n (by first | decide | assumption)).trans ?_; first | assumption | exact x_up_s)))))))))))))) rfl ?_
    refine x_icmp_ge 35 dX1_toldCrossers_9 (by decide) (fun _ => ?_) (fun hc => absurd (nI_le (by omega) (by omega)) hc)
    refine x_iload_n (i := 1) dX1_toldCrossers_35 rfl rfl ?_
    refine x_iret dX1_toldCrossers_36 rfl hq
  | succ f ih =>
    intro i a hi hq
    have hcd : cd n cs (nI i) = cs i := cd_in (by omega) hn
    rw [tcA] at hq
    refine x_iload_n (i := 2) dX1_toldCrossers_4 rfl rfl ?_
    refine x_aload_n (i := 0) dX1_toldCrossers_5 rfl rfl ?_
    refine x_get flX1_15 dX1_toldCrossers_6 (by first | decide | assumption) (by first | assumption | exact x_up_s | (refine (x_up_n (by first | decide | assumption)).trans ?_; first | assumption | exact x_up_s | (refine (x_up_n (by first | decide | assumption)).trans ?_; first | assumption | exact x_up_s | (refine (x_up_n (by first | decide | assumption)).trans ?_; first | assumption | exact x_up_s | (refine (x_up_n (by first | decide | assumption)).trans ?_; first | assumption | exact x_up_s | (refine (x_up_n (by first | decide | assumption)).trans ?_; first | assumption | exact x_up_s | (refine (x_up_n (by first | decide | assumption)).trans ?_; first | assumption | exact x_up_s | (refine (x_up_n (by first | decide | assumption)).trans ?_; first | assumption | exact x_up_s | (refine (x_up_n (by first | decide | assumption)).trans ?_; first | assumption | exact x_up_s | (refine (x_up_n (by first | decide | assumption)).trans ?_; first | assumption | exact x_up_s | (refine (x_up_n (by first | decide | assumption)).trans ?_; first | assumption | exact x_up_s | (refine (x_up_n (by first | decide | assumption)).trans ?_; first | assumption | exact x_up_s | (refine (x_up_n (by first | decide | assumption)).trans ?_; first | assumption | exact x_up_s | (refine (x_up_n (by first | decide | assumption)).trans ?_; first | assumption | exact x_up_s)))))))))))))) rfl ?_
    refine x_icmp_ge 35 dX1_toldCrossers_9 (by decide) (fun hc => absurd hc (nI_ge (by omega) (by omega))) (fun _ => ?_)
    refine x_aload_n (i := 0) dX1_toldCrossers_12 rfl rfl ?_
    refine x_iload_n (i := 2) dX1_toldCrossers_13 rfl rfl ?_
    refine x_invV clX1_33 dX1_toldCrossers_14 (cD_crosser d h hD hG hok (nI i)) (by omega) rfl (by first | decide | assumption) (by first | assumption | exact x_up_s | (refine (x_up_n (by first | decide | assumption)).trans ?_; first | assumption | exact x_up_s | (refine (x_up_n (by first | decide | assumption)).trans ?_; first | assumption | exact x_up_s | (refine (x_up_n (by first | decide | assumption)).trans ?_; first | assumption | exact x_up_s | (refine (x_up_n (by first | decide | assumption)).trans ?_; first | assumption | exact x_up_s | (refine (x_up_n (by first | decide | assumption)).trans ?_; first | assumption | exact x_up_s | (refine (x_up_n (by first | decide | assumption)).trans ?_; first | assumption | exact x_up_s | (refine (x_up_n (by first | decide | assumption)).trans ?_; first | assumption | exact x_up_s | (refine (x_up_n (by first | decide | assumption)).trans ?_; first | assumption | exact x_up_s | (refine (x_up_n (by first | decide | assumption)).trans ?_; first | assumption | exact x_up_s | (refine (x_up_n (by first | decide | assumption)).trans ?_; first | assumption | exact x_up_s | (refine (x_up_n (by first | decide | assumption)).trans ?_; first | assumption | exact x_up_s | (refine (x_up_n (by first | decide | assumption)).trans ?_; first | assumption | exact x_up_s | (refine (x_up_n (by first | decide | assumption)).trans ?_; first | assumption | exact x_up_s)))))))))))))) rfl (Nat.le_of_ble_eq_true rfl) ?_
    rintro r h' ⟨rfl, rfl⟩
    rw [hcd]
    cases hb : crN (cs i) with
    | some p =>
      have := crN_lt hb
      rw [hb] at hq
      refine x_istore_n (i := 3) dX1_toldCrossers_17 rfl (by decide) ?_
      refine x_iload_n (i := 3) dX1_toldCrossers_18 rfl rfl ?_
      refine x_iconst (v := (-1)) dX1_toldCrossers_19 (by decide) ?_
      refine x_icmp_eq 29 dX1_toldCrossers_20 (by decide) (fun hc => absurd hc (nI_neg1 (by omega))) (fun _ => ?_)
      refine x_iload_n (i := 1) dX1_toldCrossers_23 rfl rfl ?_
      refine x_iconst (v := 1) dX1_toldCrossers_24 (by decide) ?_
      refine x_iload_n (i := 3) dX1_toldCrossers_25 rfl rfl ?_
      refine x_ishl dX1_toldCrossers_26 ?_
      refine x_ior dX1_toldCrossers_27 ?_
      refine x_topi (y := nI (a ||| 2 ^ p)) (by rw [show oI (some p) = nI p from rfl, n_one_shl _ (by omega), n_or]) ?_
      refine x_istore_n (i := 1) dX1_toldCrossers_28 rfl (by decide) ?_
      first | refine x_incN dX1_toldCrossers_29 rfl (by decide) ?_ | refine x_iinc dX1_toldCrossers_29 rfl rfl (by decide) ?_
      refine x_goto 4 dX1_toldCrossers_32 (by decide) ?_
      exact x_wk (ih (i + 1) _ (by omega) hq) ⟨rfl, rfl, rfl, trivial⟩
    | none =>
      rw [hb] at hq
      refine x_istore_n (i := 3) dX1_toldCrossers_17 rfl (by decide) ?_
      refine x_iload_n (i := 3) dX1_toldCrossers_18 rfl rfl ?_
      refine x_iconst (v := (-1)) dX1_toldCrossers_19 (by decide) ?_
      refine x_icmp_eq 29 dX1_toldCrossers_20 (by decide) (fun _ => ?_) (fun hc => absurd (rfl) hc)
      first | refine x_incN dX1_toldCrossers_29 rfl (by decide) ?_ | refine x_iinc dX1_toldCrossers_29 rfl rfl (by decide) ?_
      refine x_goto 4 dX1_toldCrossers_32 (by decide) ?_
      exact x_wk (ih (i + 1) a (by omega) hq) ⟨rfl, rfl, rfl, trivial⟩
set_option maxRecDepth 100000 in
set_option maxHeartbeats 4000000 in
theorem cD_toldCrossers (d : Nat) (h : x_H) {n : Nat} {cs : Nat → Nat} (hD : h 1 = x_dy n) (hG : h 2 = x_sg cs) (hok : okD n cs) : x_Ct (d + 2) mX1_toldCrossers [.ref 1] h (fun r h' => r = some (.int (nI (tcA cs n 0 0))) ∧ h' = h) := by
  refine x_enter pnX1_toldCrossers (Nat.le_of_ble_eq_true rfl) ?_
  refine x_iconst (v := 0) dX1_toldCrossers_0 (by decide) ?_
  refine x_istore_n (i := 1) dX1_toldCrossers_1 rfl (by decide) ?_
  refine x_iconst (v := 0) dX1_toldCrossers_2 (by decide) ?_
  refine x_istore_n (i := 2) dX1_toldCrossers_3 rfl (by decide) ?_
  exact x_wk (cD_toldCrossers_loop d h hD hG hok _ n 0 0 (by omega) ⟨rfl, rfl⟩) ⟨rfl, rfl, rfl, trivial⟩
/-- codes: one more -/
def csU (cs : Nat → Nat) (k c : Nat) : Nat → Nat := fun j => if j = k then c else cs j
theorem csU_upd (cs : Nat → Nat) (k c : Nat) : upd (fun j => nI (cs j)) k (nI c) = fun j => nI (csU cs k c j) := by
  funext j
  by_cases hj : j = k
  · simp [upd, csU, hj]
  · simp [upd, csU, hj]
set_option maxRecDepth 100000 in
set_option maxHeartbeats 4000000 in
theorem cD_append (d : Nat) (h : x_H) {n : Nat} {cs : Nat → Nat} (hD : h 1 = x_dy n) (hG : h 2 = x_sg cs) (hn : n < 40) (c : Nat) : x_Ct d mX1_append [.ref 1, .int (nI c)] h (fun r h' => r = none ∧ h' = x_up (x_up h 2 (x_sg (csU cs n c))) 1 (x_dy (n + 1))) := by
  refine x_enter pnX1_append (Nat.le_of_ble_eq_true rfl) ?_
  refine x_aload_n (i := 0) dX1_append_0 rfl rfl ?_
  refine x_get flX1_15 dX1_append_1 (by first | decide | assumption) (by first | assumption | exact x_up_s | (refine (x_up_n (by first | decide | assumption)).trans ?_; first | assumption | exact x_up_s | (refine (x_up_n (by first | decide | assumption)).trans ?_; first | assumption | exact x_up_s | (refine (x_up_n (by first | decide | assumption)).trans ?_; first | assumption | exact x_up_s | (refine (x_up_n (by first | decide | assumption)).trans ?_; first | assumption | exact x_up_s | (refine (x_up_n (by first | decide | assumption)).trans ?_; first | assumption | exact x_up_s | (refine (x_up_n (by first | decide | assumption)).trans ?_; first | assumption | exact x_up_s | (refine (x_up_n (by first | decide | assumption)).trans ?_; first | assumption | exact x_up_s | (refine (x_up_n (by first | decide | assumption)).trans ?_; first | assumption | exact x_up_s | (refine (x_up_n (by first | decide | assumption)).trans ?_; first | assumption | exact x_up_s | (refine (x_up_n (by first | decide | assumption)).trans ?_; first | assumption | exact x_up_s | (refine (x_up_n (by first | decide | assumption)).trans ?_; first | assumption | exact x_up_s | (refine (x_up_n (by first | decide | assumption)).trans ?_; first | assumption | exact x_up_s | (refine (x_up_n (by first | decide | assumption)).trans ?_; first | assumption | exact x_up_s)))))))))))))) rfl ?_
  refine x_bipush (v := 40) dX1_append_4 (by decide) ?_
  refine x_icmp_ge 29 dX1_append_6 (by decide) (fun hc => absurd hc (nI_ge (b := 40) (by omega) (by decide))) (fun _ => ?_)
  refine x_aload_n (i := 0) dX1_append_9 rfl rfl ?_
  refine x_get flX1_9 dX1_append_10 (by first | decide | assumption) (by first | assumption | exact x_up_s | (refine (x_up_n (by first | decide | assumption)).trans ?_; first | assumption | exact x_up_s | (refine (x_up_n (by first | decide | assumption)).trans ?_; first | assumption | exact x_up_s | (refine (x_up_n (by first | decide | assumption)).trans ?_; first | assumption | exact x_up_s | (refine (x_up_n (by first | decide | assumption)).trans ?_; first | assumption | exact x_up_s | (refine (x_up_n (by first | decide | assumption)).trans ?_; first | assumption | exact x_up_s | (refine (x_up_n (by first | decide | assumption)).trans ?_; first | assumption | exact x_up_s | (refine (x_up_n (by first | decide | assumption)).trans ?_; first | assumption | exact x_up_s | (refine (x_up_n (by first | decide | assumption)).trans ?_; first | assumption | exact x_up_s | (refine (x_up_n (by first | decide | assumption)).trans ?_; first | assumption | exact x_up_s | (refine (x_up_n (by first | decide | assumption)).trans ?_; first | assumption | exact x_up_s | (refine (x_up_n (by first | decide | assumption)).trans ?_; first | assumption | exact x_up_s | (refine (x_up_n (by first | decide | assumption)).trans ?_; first | assumption | exact x_up_s | (refine (x_up_n (by first | decide | assumption)).trans ?_; first | assumption | exact x_up_s)))))))))))))) rfl ?_
  refine x_aload_n (i := 0) dX1_append_13 rfl rfl ?_
  refine x_get flX1_15 dX1_append_14 (by first | decide | assumption) (by first | assumption | exact x_up_s | (refine (x_up_n (by first | decide | assumption)).trans ?_; first | assumption | exact x_up_s | (refine (x_up_n (by first | decide | assumption)).trans ?_; first | assumption | exact x_up_s | (refine (x_up_n (by first | decide | assumption)).trans ?_; first | assumption | exact x_up_s | (refine (x_up_n (by first | decide | assumption)).trans ?_; first | assumption | exact x_up_s | (refine (x_up_n (by first | decide | assumption)).trans ?_; first | assumption | exact x_up_s | (refine (x_up_n (by first | decide | assumption)).trans ?_; first | assumption | exact x_up_s | (refine (x_up_n (by first | decide | assumption)).trans ?_; first | assumption | exact x_up_s | (refine (x_up_n (by first | decide | assumption)).trans ?_; first | assumption | exact x_up_s | (refine (x_up_n (by first | decide | assumption)).trans ?_; first | assumption | exact x_up_s | (refine (x_up_n (by first | decide | assumption)).trans ?_; first | assumption | exact x_up_s | (refine (x_up_n (by first | decide | assumption)).trans ?_; first | assumption | exact x_up_s | (refine (x_up_n (by first | decide | assumption)).trans ?_; first | assumption | exact x_up_s | (refine (x_up_n (by first | decide | assumption)).trans ?_; first | assumption | exact x_up_s)))))))))))))) rfl ?_
  refine x_iload_n (i := 1) dX1_append_17 rfl rfl ?_
  refine x_iast n dX1_append_18 (by first | decide | assumption) (by first | assumption | exact x_up_s | (refine (x_up_n (by first | decide | assumption)).trans ?_; first | assumption | exact x_up_s | (refine (x_up_n (by first | decide | assumption)).trans ?_; first | assumption | exact x_up_s | (refine (x_up_n (by first | decide | assumption)).trans ?_; first | assumption | exact x_up_s | (refine (x_up_n (by first | decide | assumption)).trans ?_; first | assumption | exact x_up_s | (refine (x_up_n (by first | decide | assumption)).trans ?_; first | assumption | exact x_up_s | (refine (x_up_n (by first | decide | assumption)).trans ?_; first | assumption | exact x_up_s | (refine (x_up_n (by first | decide | assumption)).trans ?_; first | assumption | exact x_up_s | (refine (x_up_n (by first | decide | assumption)).trans ?_; first | assumption | exact x_up_s | (refine (x_up_n (by first | decide | assumption)).trans ?_; first | assumption | exact x_up_s | (refine (x_up_n (by first | decide | assumption)).trans ?_; first | assumption | exact x_up_s | (refine (x_up_n (by first | decide | assumption)).trans ?_; first | assumption | exact x_up_s | (refine (x_up_n (by first | decide | assumption)).trans ?_; first | assumption | exact x_up_s | (refine (x_up_n (by first | decide | assumption)).trans ?_; first | assumption | exact x_up_s)))))))))))))) rfl hn (by decide) ?_
  refine x_aload_n (i := 0) dX1_append_19 rfl rfl ?_
  refine x_dup dX1_append_20 rfl ?_
  refine x_get flX1_15 dX1_append_21 (by first | decide | assumption) (by first | assumption | exact x_up_s | (refine (x_up_n (by first | decide | assumption)).trans ?_; first | assumption | exact x_up_s | (refine (x_up_n (by first | decide | assumption)).trans ?_; first | assumption | exact x_up_s | (refine (x_up_n (by first | decide | assumption)).trans ?_; first | assumption | exact x_up_s | (refine (x_up_n (by first | decide | assumption)).trans ?_; first | assumption | exact x_up_s | (refine (x_up_n (by first | decide | assumption)).trans ?_; first | assumption | exact x_up_s | (refine (x_up_n (by first | decide | assumption)).trans ?_; first | assumption | exact x_up_s | (refine (x_up_n (by first | decide | assumption)).trans ?_; first | assumption | exact x_up_s | (refine (x_up_n (by first | decide | assumption)).trans ?_; first | assumption | exact x_up_s | (refine (x_up_n (by first | decide | assumption)).trans ?_; first | assumption | exact x_up_s | (refine (x_up_n (by first | decide | assumption)).trans ?_; first | assumption | exact x_up_s | (refine (x_up_n (by first | decide | assumption)).trans ?_; first | assumption | exact x_up_s | (refine (x_up_n (by first | decide | assumption)).trans ?_; first | assumption | exact x_up_s | (refine (x_up_n (by first | decide | assumption)).trans ?_; first | assumption | exact x_up_s)))))))))))))) rfl ?_
  refine x_iconst (v := 1) dX1_append_24 (by decide) ?_
  refine x_iadd dX1_append_25 ?_
  refine x_topi (nI_1 n) ?_
  refine x_put fpX1_15 dX1_append_26 (by first | decide | assumption) (by first | assumption | exact x_up_s | (refine (x_up_n (by first | decide | assumption)).trans ?_; first | assumption | exact x_up_s | (refine (x_up_n (by first | decide | assumption)).trans ?_; first | assumption | exact x_up_s | (refine (x_up_n (by first | decide | assumption)).trans ?_; first | assumption | exact x_up_s | (refine (x_up_n (by first | decide | assumption)).trans ?_; first | assumption | exact x_up_s | (refine (x_up_n (by first | decide | assumption)).trans ?_; first | assumption | exact x_up_s | (refine (x_up_n (by first | decide | assumption)).trans ?_; first | assumption | exact x_up_s | (refine (x_up_n (by first | decide | assumption)).trans ?_; first | assumption | exact x_up_s | (refine (x_up_n (by first | decide | assumption)).trans ?_; first | assumption | exact x_up_s | (refine (x_up_n (by first | decide | assumption)).trans ?_; first | assumption | exact x_up_s | (refine (x_up_n (by first | decide | assumption)).trans ?_; first | assumption | exact x_up_s | (refine (x_up_n (by first | decide | assumption)).trans ?_; first | assumption | exact x_up_s | (refine (x_up_n (by first | decide | assumption)).trans ?_; first | assumption | exact x_up_s | (refine (x_up_n (by first | decide | assumption)).trans ?_; first | assumption | exact x_up_s)))))))))))))) rfl rfl (fun _ => rfl) (Nat.le_of_ble_eq_true rfl) rfl ?_
  refine x_vret dX1_append_29 rfl ⟨rfl, by rw [csU_upd]; rfl⟩
