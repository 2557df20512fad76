/-! who reads a name; what is missed -/
def rdA (w L : Nat) (cs : Nat → Nat) (p : Nat) (pl : Option Nat) : Nat → Nat → Bd → Nat → Nat × Bd
  | 0, _, b, acc => (acc, b)
  | f + 1, i, b, acc =>
    let b2 := bst w L cs i (if pl = some i then bw w L (p, 0) b else b)
    rdA w L cs p pl f (i + 1) b2 (match lkN (cs i) with
      | some q => if bhas p b2 then acc ||| 2 ^ q else acc
      | none => acc)
theorem okB_rdA {w L : Nat} {cs : Nat → Nat} {p : Nat} {pl : Option Nat} (hp : p < 8) : ∀ (f i : Nat) (b : Bd) (acc : Nat), i + f ≤ 40 → okB L b → okB L (rdA w L cs p pl f i b acc).2
  | 0, _, _, _, _, h => h
  | f + 1, i, b, acc, hi, h => by
    unfold rdA
    refine okB_rdA hp f (i + 1) _ _ (by omega) (okB_bst ?_ (by omega))
    split
    · exact okB_bw h (by show p ≤ 8; omega) (by show 0 < 64; decide)
    · exact h
theorem oI_eq {i : Nat} {o : Option Nat} (hi : i < 2 ^ 31) (ho : ∀ p, o = some p → p < 2 ^ 31) : nI i = oI o ↔ o = some i := by
  cases o with
  | none => simp only [oI, reduceCtorEq, iff_false]; exact nI_neg1 hi
  | some p =>
    simp only [oI, Option.some.injEq]
    rw [nI_eq hi (ho p rfl)]
    exact eq_comm
set_option maxRecDepth 100000 in
set_option maxHeartbeats 4000000 in
theorem cX_readers_loop (d : Nat) (h : x_H) {n : Nat} {cs : Nat → Nat} (hX : h 0 = x_x) (hD : h 1 = x_dy n) (hG : h 2 = x_sg cs) (hok : okD n cs) {L w q : Nat} (hS : h 3 = x_st L w q) (hL1 : 1 ≤ L) (hL9 : L ≤ 9) (hw : w ≤ 2) (p : Nat) (hp : p < 8) (pl : Option Nat) (hpl : ∀ j, pl = some j → j < 2 ^ 31) (Q : Option Value → x_H → Prop) :
    ∀ (f i : Nat) (b : Bd) (acc : Nat), i + f = n → okB L b → Q (some (.int (nI (rdA w L cs p pl f i b acc).1))) (x_up h 9 (x_bd L w (rdA w L cs p pl f i b acc).2)) →
      x_V (d + 4) mX4_readers 26 (x_ls [some (.ref 0), some (.int (nI p)), some (.int (oI pl)), some (.int (nI acc)), some (.int (nI i))]) [] (x_up h 9 (x_bd L w b)) Q := by
  have hn := hok.1
  intro f
  induction f with
  | zero =>
    intro i b acc hi hb hq
    refine x_iload dX4_readers_26 rfl ?_
    refine x_aload_n (i := 0) dX4_readers_28 rfl rfl ?_
    refine x_get flX4_12 dX4_readers_29 (by first | assumption | decide) (by first | assumption | exact x_up_s | (refine (x_up_n (by first | assumption | decide)).trans ?_; first | assumption | exact x_up_s | (refine (x_up_n (by first | assumption | decide)).trans ?_; first | assumption | exact x_up_s | (refine (x_up_n (by first | assumption | decide)).trans ?_; first | assumption | exact x_up_s | (refine (x_up_n (by first | assumption | decide)).trans ?_; first | assumption | exact x_up_s | (refine (x_up_n (by first | assumption | decide)).trans ?_; first | assumption | exact x_up_s | (refine (x_up_n (by first | assumption | decide)).trans ?_; first | assumption | exact x_up_s | (refine (x_up_n (by first | assumption | decide)).trans ?_; first | assumption | exact x_up_s)))))))) rfl ?_
    refine x_get flX4_68 dX4_readers_32 (by first | assumption | decide) (by first | assumption | exact x_up_s | (refine (x_up_n (by first | assumption | decide)).trans ?_; first | assumption | exact x_up_s | (refine (x_up_n (by first | assumption | decide)).trans ?_; first | assumption | exact x_up_s | (refine (x_up_n (by first | assumption | decide)).trans ?_; first | assumption | exact x_up_s | (refine (x_up_n (by first | assumption | decide)).trans ?_; first | assumption | exact x_up_s | (refine (x_up_n (by first | assumption | decide)).trans ?_; first | assumption | exact x_up_s | (refine (x_up_n (by first | assumption | decide)).trans ?_; first | assumption | exact x_up_s | (refine (x_up_n (by first | assumption | decide)).trans ?_; first | assumption | exact x_up_s)))))))) rfl ?_
    refine x_icmp_ge 100 dX4_readers_35 (by decide) (fun _ => ?_) (fun hc => absurd (nI_le (by omega) (by omega)) hc)
    refine x_iload_n (i := 3) dX4_readers_100 rfl rfl ?_
    refine x_iret dX4_readers_101 rfl hq
  | succ f ih =>
    intro i b acc hi hb hq
    have hcd : cd n cs (nI i) = cs i := cd_in (by omega) hn
    -- from 53 on
    have tail : ∀ b1 : Bd, okB L b1 → b1 = (if pl = some i then bw w L (p, 0) b else b) → x_V (d + 4) mX4_readers 53 (x_ls [some (.ref 0), some (.int (nI p)), some (.int (oI pl)), some (.int (nI acc)), some (.int (nI i))]) [] (x_up h 9 (x_bd L w b1)) Q := by
      intro b1 hb1 he1
      unfold rdA at hq
      rw [← he1] at hq
      dsimp only at hq
      refine x_aload_n (i := 0) dX4_readers_53 rfl rfl ?_
      refine x_iload dX4_readers_54 rfl ?_
      refine x_invV clX4_96 dX4_readers_56 (cX_step d _ (by first | assumption | exact x_up_s | (refine (x_up_n (by first | assumption | decide)).trans ?_; first | assumption | exact x_up_s | (refine (x_up_n (by first | assumption | decide)).trans ?_; first | assumption | exact x_up_s | (refine (x_up_n (by first | assumption | decide)).trans ?_; first | assumption | exact x_up_s | (refine (x_up_n (by first | assumption | decide)).trans ?_; first | assumption | exact x_up_s | (refine (x_up_n (by first | assumption | decide)).trans ?_; first | assumption | exact x_up_s | (refine (x_up_n (by first | assumption | decide)).trans ?_; first | assumption | exact x_up_s | (refine (x_up_n (by first | assumption | decide)).trans ?_; first | assumption | exact x_up_s)))))))) (by first | assumption | exact x_up_s | (refine (x_up_n (by first | assumption | decide)).trans ?_; first | assumption | exact x_up_s | (refine (x_up_n (by first | assumption | decide)).trans ?_; first | assumption | exact x_up_s | (refine (x_up_n (by first | assumption | decide)).trans ?_; first | assumption | exact x_up_s | (refine (x_up_n (by first | assumption | decide)).trans ?_; first | assumption | exact x_up_s | (refine (x_up_n (by first | assumption | decide)).trans ?_; first | assumption | exact x_up_s | (refine (x_up_n (by first | assumption | decide)).trans ?_; first | assumption | exact x_up_s | (refine (x_up_n (by first | assumption | decide)).trans ?_; first | assumption | exact x_up_s)))))))) (by first | assumption | exact x_up_s | (refine (x_up_n (by first | assumption | decide)).trans ?_; first | assumption | exact x_up_s | (refine (x_up_n (by first | assumption | decide)).trans ?_; first | assumption | exact x_up_s | (refine (x_up_n (by first | assumption | decide)).trans ?_; first | assumption | exact x_up_s | (refine (x_up_n (by first | assumption | decide)).trans ?_; first | assumption | exact x_up_s | (refine (x_up_n (by first | assumption | decide)).trans ?_; first | assumption | exact x_up_s | (refine (x_up_n (by first | assumption | decide)).trans ?_; first | assumption | exact x_up_s | (refine (x_up_n (by first | assumption | decide)).trans ?_; first | assumption | exact x_up_s)))))))) hok x_up_s hb1 hw i (by omega)) (by omega) rfl (by first | assumption | decide) (by first | assumption | exact x_up_s | (refine (x_up_n (by first | assumption | decide)).trans ?_; first | assumption | exact x_up_s | (refine (x_up_n (by first | assumption | decide)).trans ?_; first | assumption | exact x_up_s | (refine (x_up_n (by first | assumption | decide)).trans ?_; first | assumption | exact x_up_s | (refine (x_up_n (by first | assumption | decide)).trans ?_; first | assumption | exact x_up_s | (refine (x_up_n (by first | assumption | decide)).trans ?_; first | assumption | exact x_up_s | (refine (x_up_n (by first | assumption | decide)).trans ?_; first | assumption | exact x_up_s | (refine (x_up_n (by first | assumption | decide)).trans ?_; first | assumption | exact x_up_s)))))))) rfl (Nat.le_of_ble_eq_true rfl) ?_
      rintro r h' ⟨rfl, rfl⟩
      rw [x_up_up]
      have hb2 : okB L (bst w L cs i b1) := okB_bst hb1 (by omega)
      generalize bst w L cs i b1 = b2 at hq hb2 ⊢
      refine x_aload_n (i := 0) dX4_readers_59 rfl rfl ?_
      refine x_get flX4_12 dX4_readers_60 (by first | assumption | decide) (by first | assumption | exact x_up_s | (refine (x_up_n (by first | assumption | decide)).trans ?_; first | assumption | exact x_up_s | (refine (x_up_n (by first | assumption | decide)).trans ?_; first | assumption | exact x_up_s | (refine (x_up_n (by first | assumption | decide)).trans ?_; first | assumption | exact x_up_s | (refine (x_up_n (by first | assumption | decide)).trans ?_; first | assumption | exact x_up_s | (refine (x_up_n (by first | assumption | decide)).trans ?_; first | assumption | exact x_up_s | (refine (x_up_n (by first | assumption | decide)).trans ?_; first | assumption | exact x_up_s | (refine (x_up_n (by first | assumption | decide)).trans ?_; first | assumption | exact x_up_s)))))))) rfl ?_
      refine x_iload dX4_readers_63 rfl ?_
      refine x_invV clX4_99 dX4_readers_65 (cD_looker (d + 2) _ (by first | assumption | exact x_up_s | (refine (x_up_n (by first | assumption | decide)).trans ?_; first | assumption | exact x_up_s | (refine (x_up_n (by first | assumption | decide)).trans ?_; first | assumption | exact x_up_s | (refine (x_up_n (by first | assumption | decide)).trans ?_; first | assumption | exact x_up_s | (refine (x_up_n (by first | assumption | decide)).trans ?_; first | assumption | exact x_up_s | (refine (x_up_n (by first | assumption | decide)).trans ?_; first | assumption | exact x_up_s | (refine (x_up_n (by first | assumption | decide)).trans ?_; first | assumption | exact x_up_s | (refine (x_up_n (by first | assumption | decide)).trans ?_; first | assumption | exact x_up_s)))))))) (by first | assumption | exact x_up_s | (refine (x_up_n (by first | assumption | decide)).trans ?_; first | assumption | exact x_up_s | (refine (x_up_n (by first | assumption | decide)).trans ?_; first | assumption | exact x_up_s | (refine (x_up_n (by first | assumption | decide)).trans ?_; first | assumption | exact x_up_s | (refine (x_up_n (by first | assumption | decide)).trans ?_; first | assumption | exact x_up_s | (refine (x_up_n (by first | assumption | decide)).trans ?_; first | assumption | exact x_up_s | (refine (x_up_n (by first | assumption | decide)).trans ?_; first | assumption | exact x_up_s | (refine (x_up_n (by first | assumption | decide)).trans ?_; first | assumption | exact x_up_s)))))))) hok (nI i)) (by omega) rfl (by first | assumption | decide) (by first | assumption | exact x_up_s | (refine (x_up_n (by first | assumption | decide)).trans ?_; first | assumption | exact x_up_s | (refine (x_up_n (by first | assumption | decide)).trans ?_; first | assumption | exact x_up_s | (refine (x_up_n (by first | assumption | decide)).trans ?_; first | assumption | exact x_up_s | (refine (x_up_n (by first | assumption | decide)).trans ?_; first | assumption | exact x_up_s | (refine (x_up_n (by first | assumption | decide)).trans ?_; first | assumption | exact x_up_s | (refine (x_up_n (by first | assumption | decide)).trans ?_; first | assumption | exact x_up_s | (refine (x_up_n (by first | assumption | decide)).trans ?_; first | assumption | exact x_up_s)))))))) rfl (Nat.le_of_ble_eq_true rfl) ?_
      rintro r h' ⟨rfl, rfl⟩
      rw [hcd]
      cases hl : lkN (cs i) with
      | none =>
        rw [hl] at hq
        dsimp only at hq
        refine x_istore dX4_readers_68 (by decide) ?_
        refine x_iload dX4_readers_70 rfl ?_
        refine x_iconst (v := (-1)) dX4_readers_72 (by decide) ?_
        refine x_icmp_eq 94 dX4_readers_73 (by decide) (fun _ => ?_) (fun hc => absurd (rfl) hc)
        first | refine x_incN dX4_readers_94 rfl (by decide) ?_ | refine x_iinc dX4_readers_94 rfl rfl (by decide) ?_
        refine x_goto 26 dX4_readers_97 (by decide) ?_
        exact x_wk (ih (i + 1) b2 acc (by omega) hb2 hq) ⟨rfl, rfl, rfl, rfl, rfl, trivial⟩
      | some l =>
        have hl8 := lkN_lt hl
        rw [hl] at hq
        dsimp only at hq
        refine x_istore dX4_readers_68 (by decide) ?_
        refine x_iload dX4_readers_70 rfl ?_
        refine x_iconst (v := (-1)) dX4_readers_72 (by decide) ?_
        refine x_icmp_eq 94 dX4_readers_73 (by decide) (fun hc => absurd hc (nI_neg1 (by omega))) (fun _ => ?_)
        refine x_aload_n (i := 0) dX4_readers_76 rfl rfl ?_
        refine x_get flX4_34 dX4_readers_77 (by first | assumption | decide) (by first | assumption | exact x_up_s | (refine (x_up_n (by first | assumption | decide)).trans ?_; first | assumption | exact x_up_s | (refine (x_up_n (by first | assumption | decide)).trans ?_; first | assumption | exact x_up_s | (refine (x_up_n (by first | assumption | decide)).trans ?_; first | assumption | exact x_up_s | (refine (x_up_n (by first | assumption | decide)).trans ?_; first | assumption | exact x_up_s | (refine (x_up_n (by first | assumption | decide)).trans ?_; first | assumption | exact x_up_s | (refine (x_up_n (by first | assumption | decide)).trans ?_; first | assumption | exact x_up_s | (refine (x_up_n (by first | assumption | decide)).trans ?_; first | assumption | exact x_up_s)))))))) rfl ?_
        refine x_iload_n (i := 1) dX4_readers_80 rfl rfl ?_
        refine x_invV clX4_200 dX4_readers_81 (cB_holds d 9 (by decide) _ x_up_s hb2 p (by omega)) (by omega) rfl (by first | assumption | decide) (by first | assumption | exact x_up_s | (refine (x_up_n (by first | assumption | decide)).trans ?_; first | assumption | exact x_up_s | (refine (x_up_n (by first | assumption | decide)).trans ?_; first | assumption | exact x_up_s | (refine (x_up_n (by first | assumption | decide)).trans ?_; first | assumption | exact x_up_s | (refine (x_up_n (by first | assumption | decide)).trans ?_; first | assumption | exact x_up_s | (refine (x_up_n (by first | assumption | decide)).trans ?_; first | assumption | exact x_up_s | (refine (x_up_n (by first | assumption | decide)).trans ?_; first | assumption | exact x_up_s | (refine (x_up_n (by first | assumption | decide)).trans ?_; first | assumption | exact x_up_s)))))))) rfl (Nat.le_of_ble_eq_true rfl) ?_
        rintro r h' ⟨rfl, rfl⟩
        cases hh : bhas p b2 with
        | false =>
          rw [hh] at hq
          simp only [Bool.false_eq_true, if_false] at hq
          refine x_if_eq 94 dX4_readers_84 (by decide) (fun _ => ?_) (fun hc => absurd (rfl) hc)
          first | refine x_incN dX4_readers_94 rfl (by decide) ?_ | refine x_iinc dX4_readers_94 rfl rfl (by decide) ?_
          refine x_goto 26 dX4_readers_97 (by decide) ?_
          exact x_wk (ih (i + 1) b2 acc (by omega) hb2 hq) ⟨rfl, rfl, rfl, rfl, rfl, trivial⟩
        | true =>
          rw [hh] at hq
          simp only [if_true] at hq
          refine x_if_eq 94 dX4_readers_84 (by decide) (fun hc => absurd hc (by decide)) (fun _ => ?_)
          refine x_iload_n (i := 3) dX4_readers_87 rfl rfl ?_
          refine x_iconst (v := 1) dX4_readers_88 (by decide) ?_
          refine x_iload dX4_readers_89 rfl ?_
          refine x_ishl dX4_readers_91 ?_
          refine x_ior dX4_readers_92 ?_
          refine x_topi (y := nI (acc ||| 2 ^ l)) (by rw [show oI (some l) = nI l from rfl, n_one_shl _ (by omega), n_or]) ?_
          refine x_istore_n (i := 3) dX4_readers_93 rfl (by decide) ?_
          first | refine x_incN dX4_readers_94 rfl (by decide) ?_ | refine x_iinc dX4_readers_94 rfl rfl (by decide) ?_
          refine x_goto 26 dX4_readers_97 (by decide) ?_
          exact x_wk (ih (i + 1) b2 _ (by omega) hb2 hq) ⟨rfl, rfl, rfl, rfl, rfl, trivial⟩
    refine x_iload dX4_readers_26 rfl ?_
    refine x_aload_n (i := 0) dX4_readers_28 rfl rfl ?_
    refine x_get flX4_12 dX4_readers_29 (by first | assumption | decide) (by first | assumption | exact x_up_s | (refine (x_up_n (by first | assumption | decide)).trans ?_; first | assumption | exact x_up_s | (refine (x_up_n (by first | assumption | decide)).trans ?_; first | assumption | exact x_up_s | (refine (x_up_n (by first | assumption | decide)).trans ?_; first | assumption | exact x_up_s | (refine (x_up_n (by first | assumption | decide)).trans ?_; first | assumption | exact x_up_s | (refine (x_up_n (by first | assumption | decide)).trans ?_; first | assumption | exact x_up_s | (refine (x_up_n (by first | assumption | decide)).trans ?_; first | assumption | exact x_up_s | (refine (x_up_n (by first | assumption | decide)).trans ?_; first | assumption | exact x_up_s)))))))) rfl ?_
    refine x_get flX4_68 dX4_readers_32 (by first | assumption | decide) (by first | assumption | exact x_up_s | (refine (x_up_n (by first | assumption | decide)).trans ?_; first | assumption | exact x_up_s | (refine (x_up_n (by first | assumption | decide)).trans ?_; first | assumption | exact x_up_s | (refine (x_up_n (by first | assumption | decide)).trans ?_; first | assumption | exact x_up_s | (refine (x_up_n (by first | assumption | decide)).trans ?_; first | assumption | exact x_up_s | (refine (x_up_n (by first | assumption | decide)).trans ?_; first | assumption | exact x_up_s | (refine (x_up_n (by first | assumption | decide)).trans ?_; first | assumption | exact x_up_s | (refine (x_up_n (by first | assumption | decide)).trans ?_; first | assumption | exact x_up_s)))))))) rfl ?_
    refine x_icmp_ge 100 dX4_readers_35 (by decide) (fun hc => absurd hc (nI_ge (by omega) (by omega))) (fun _ => ?_)
    refine x_iload dX4_readers_38 rfl ?_
    refine x_iload_n (i := 2) dX4_readers_40 rfl rfl ?_
    have hplc := oI_eq (i := i) (o := pl) (by omega) hpl
    refine x_icmp_ne 53 dX4_readers_41 (by decide) (fun hc => ?_) (fun hc => ?_)
    · exact x_wk (tail b hb (by rw [if_neg (fun q => hc (hplc.mpr q))])) ⟨rfl, rfl, rfl, rfl, rfl, trivial⟩
    · refine x_aload_n (i := 0) dX4_readers_44 rfl rfl ?_
      refine x_get flX4_34 dX4_readers_45 (by first | assumption | decide) (by first | assumption | exact x_up_s | (refine (x_up_n (by first | assumption | decide)).trans ?_; first | assumption | exact x_up_s | (refine (x_up_n (by first | assumption | decide)).trans ?_; first | assumption | exact x_up_s | (refine (x_up_n (by first | assumption | decide)).trans ?_; first | assumption | exact x_up_s | (refine (x_up_n (by first | assumption | decide)).trans ?_; first | assumption | exact x_up_s | (refine (x_up_n (by first | assumption | decide)).trans ?_; first | assumption | exact x_up_s | (refine (x_up_n (by first | assumption | decide)).trans ?_; first | assumption | exact x_up_s | (refine (x_up_n (by first | assumption | decide)).trans ?_; first | assumption | exact x_up_s)))))))) rfl ?_
      refine x_iload_n (i := 1) dX4_readers_48 rfl rfl ?_
      refine x_iconst (v := (-1)) dX4_readers_49 (by decide) ?_
      refine x_invV clX4_197 dX4_readers_50 (cB_write (d + 1) 9 (by decide) _ x_up_s hb hw p (by omega) (-1) 0 (by decide) (by decide)) (by omega) rfl (by first | assumption | decide) (by first | assumption | exact x_up_s | (refine (x_up_n (by first | assumption | decide)).trans ?_; first | assumption | exact x_up_s | (refine (x_up_n (by first | assumption | decide)).trans ?_; first | assumption | exact x_up_s | (refine (x_up_n (by first | assumption | decide)).trans ?_; first | assumption | exact x_up_s | (refine (x_up_n (by first | assumption | decide)).trans ?_; first | assumption | exact x_up_s | (refine (x_up_n (by first | assumption | decide)).trans ?_; first | assumption | exact x_up_s | (refine (x_up_n (by first | assumption | decide)).trans ?_; first | assumption | exact x_up_s | (refine (x_up_n (by first | assumption | decide)).trans ?_; first | assumption | exact x_up_s)))))))) rfl (Nat.le_of_ble_eq_true rfl) ?_
      rintro r h' ⟨rfl, rfl⟩
      rw [x_up_up]
      exact x_wk (tail _ (okB_bw hb (by show p ≤ 8; omega) (by show 0 < 64; decide)) (by rw [if_pos (hplc.mp hc)])) ⟨rfl, rfl, rfl, rfl, rfl, trivial⟩
set_option maxRecDepth 100000 in
set_option maxHeartbeats 4000000 in
theorem cX_readers (d : Nat) (h : x_H) {n : Nat} {cs : Nat → Nat} (hX : h 0 = x_x) (hD : h 1 = x_dy n) (hG : h 2 = x_sg cs) (hok : okD n cs) {L w q : Nat} (hS : h 3 = x_st L w q) (hL1 : 1 ≤ L) (hL9 : L ≤ 9) (hw : w ≤ 2) {i1 i2 : Int32} {l1 l2 l3 l4 : Int64} (hB : h 9 = x_bd0 i1 i2 l1 l2 l3 l4) (p : Nat) (hp : p < 8) (pl : Option Nat) (hpl : ∀ j, pl = some j → j < 2 ^ 31) : x_Ct (d + 4) mX4_readers [.ref 0, .int (nI p), .int (oI pl)] h (fun r h' => r = some (.int (nI (rdA w L cs p pl n 0 [] 0).1)) ∧ h' = x_up h 9 (x_bd L w (rdA w L cs p pl n 0 [] 0).2)) := by
  refine x_enter pnX4_readers (Nat.le_of_ble_eq_true rfl) ?_
  refine x_iconst (v := 0) dX4_readers_0 (by decide) ?_
  refine x_istore_n (i := 3) dX4_readers_1 rfl (by decide) ?_
  refine x_aload_n (i := 0) dX4_readers_2 rfl rfl ?_
  refine x_get flX4_34 dX4_readers_3 (by first | assumption | decide) (by first | assumption | exact x_up_s | (refine (x_up_n (by first | assumption | decide)).trans ?_; first | assumption | exact x_up_s | (refine (x_up_n (by first | assumption | decide)).trans ?_; first | assumption | exact x_up_s | (refine (x_up_n (by first | assumption | decide)).trans ?_; first | assumption | exact x_up_s | (refine (x_up_n (by first | assumption | decide)).trans ?_; first | assumption | exact x_up_s | (refine (x_up_n (by first | assumption | decide)).trans ?_; first | assumption | exact x_up_s | (refine (x_up_n (by first | assumption | decide)).trans ?_; first | assumption | exact x_up_s | (refine (x_up_n (by first | assumption | decide)).trans ?_; first | assumption | exact x_up_s)))))))) rfl ?_
  refine x_aload_n (i := 0) dX4_readers_6 rfl rfl ?_
  refine x_get flX4_19 dX4_readers_7 (by first | assumption | decide) (by first | assumption | exact x_up_s | (refine (x_up_n (by first | assumption | decide)).trans ?_; first | assumption | exact x_up_s | (refine (x_up_n (by first | assumption | decide)).trans ?_; first | assumption | exact x_up_s | (refine (x_up_n (by first | assumption | decide)).trans ?_; first | assumption | exact x_up_s | (refine (x_up_n (by first | assumption | decide)).trans ?_; first | assumption | exact x_up_s | (refine (x_up_n (by first | assumption | decide)).trans ?_; first | assumption | exact x_up_s | (refine (x_up_n (by first | assumption | decide)).trans ?_; first | assumption | exact x_up_s | (refine (x_up_n (by first | assumption | decide)).trans ?_; first | assumption | exact x_up_s)))))))) rfl ?_
  refine x_get flX4_57 dX4_readers_10 (by first | assumption | decide) (by first | assumption | exact x_up_s | (refine (x_up_n (by first | assumption | decide)).trans ?_; first | assumption | exact x_up_s | (refine (x_up_n (by first | assumption | decide)).trans ?_; first | assumption | exact x_up_s | (refine (x_up_n (by first | assumption | decide)).trans ?_; first | assumption | exact x_up_s | (refine (x_up_n (by first | assumption | decide)).trans ?_; first | assumption | exact x_up_s | (refine (x_up_n (by first | assumption | decide)).trans ?_; first | assumption | exact x_up_s | (refine (x_up_n (by first | assumption | decide)).trans ?_; first | assumption | exact x_up_s | (refine (x_up_n (by first | assumption | decide)).trans ?_; first | assumption | exact x_up_s)))))))) rfl ?_
  refine x_aload_n (i := 0) dX4_readers_13 rfl rfl ?_
  refine x_get flX4_19 dX4_readers_14 (by first | assumption | decide) (by first | assumption | exact x_up_s | (refine (x_up_n (by first | assumption | decide)).trans ?_; first | assumption | exact x_up_s | (refine (x_up_n (by first | assumption | decide)).trans ?_; first | assumption | exact x_up_s | (refine (x_up_n (by first | assumption | decide)).trans ?_; first | assumption | exact x_up_s | (refine (x_up_n (by first | assumption | decide)).trans ?_; first | assumption | exact x_up_s | (refine (x_up_n (by first | assumption | decide)).trans ?_; first | assumption | exact x_up_s | (refine (x_up_n (by first | assumption | decide)).trans ?_; first | assumption | exact x_up_s | (refine (x_up_n (by first | assumption | decide)).trans ?_; first | assumption | exact x_up_s)))))))) rfl ?_
  refine x_get flX4_65 dX4_readers_17 (by first | assumption | decide) (by first | assumption | exact x_up_s | (refine (x_up_n (by first | assumption | decide)).trans ?_; first | assumption | exact x_up_s | (refine (x_up_n (by first | assumption | decide)).trans ?_; first | assumption | exact x_up_s | (refine (x_up_n (by first | assumption | decide)).trans ?_; first | assumption | exact x_up_s | (refine (x_up_n (by first | assumption | decide)).trans ?_; first | assumption | exact x_up_s | (refine (x_up_n (by first | assumption | decide)).trans ?_; first | assumption | exact x_up_s | (refine (x_up_n (by first | assumption | decide)).trans ?_; first | assumption | exact x_up_s | (refine (x_up_n (by first | assumption | decide)).trans ?_; first | assumption | exact x_up_s)))))))) rfl ?_
  refine x_invV clX4_93 dX4_readers_20 (cB_begin d 9 (by decide) h hB L w hL9) (by omega) rfl (by first | assumption | decide) (by first | assumption | exact x_up_s | (refine (x_up_n (by first | assumption | decide)).trans ?_; first | assumption | exact x_up_s | (refine (x_up_n (by first | assumption | decide)).trans ?_; first | assumption | exact x_up_s | (refine (x_up_n (by first | assumption | decide)).trans ?_; first | assumption | exact x_up_s | (refine (x_up_n (by first | assumption | decide)).trans ?_; first | assumption | exact x_up_s | (refine (x_up_n (by first | assumption | decide)).trans ?_; first | assumption | exact x_up_s | (refine (x_up_n (by first | assumption | decide)).trans ?_; first | assumption | exact x_up_s | (refine (x_up_n (by first | assumption | decide)).trans ?_; first | assumption | exact x_up_s)))))))) rfl (Nat.le_of_ble_eq_true rfl) ?_
  rintro r h' ⟨rfl, rfl⟩
  refine x_iconst (v := 0) dX4_readers_23 (by decide) ?_
  refine x_istore dX4_readers_24 (by decide) ?_
  exact x_wk (cX_readers_loop d h hX hD hG hok hS hL1 hL9 hw p hp pl hpl _ n 0 [] 0 (by omega) (okB_nil hL1 hL9) ⟨rfl, rfl⟩) ⟨rfl, rfl, rfl, rfl, rfl, trivial⟩
def andN (m k : Nat) : Nat := m ^^^ (m &&& k)
theorem andN_bit (m k i : Nat) : (andN m k).testBit i = (m.testBit i && !k.testBit i) := by
  unfold andN
  rw [Nat.testBit_xor, Nat.testBit_and]
  cases m.testBit i <;> cases k.testBit i <;> rfl
theorem l_andN (m k : Nat) : lN m &&& (lN k ^^^ (-1)) = lN (andN m k) := by
  apply Int64.toBitVec_inj.1
  show BitVec.ofNat 64 m &&& (BitVec.ofNat 64 k ^^^ BitVec.ofInt 64 (-1)) = BitVec.ofNat 64 (andN m k)
  have e : BitVec.ofInt 64 (-1) = BitVec.allOnes 64 := by decide
  rw [e]
  apply BitVec.eq_of_getLsbD_eq
  intro i hi
  simp only [BitVec.getLsbD_and, BitVec.getLsbD_xor, BitVec.getLsbD_allOnes, BitVec.getLsbD_ofNat, andN_bit, hi, decide_true, Bool.true_and, Bool.xor_true]
def unA (w L : Nat) (cs : Nat → Nat) : Nat → Nat → Bd → Nat → Nat × Bd
  | 0, _, b, m => (m, b)
  | f + 1, i, b, m => if (lkN (cs i)).isSome then unA w L cs f (i + 1) b (andN m (wev b)) else unA w L cs f (i + 1) (bst w L cs i b) (m ||| 2 ^ i)
theorem okB_unA {w L : Nat} {cs : Nat → Nat} : ∀ (f i : Nat) (b : Bd) (m : Nat), i + f ≤ 40 → okB L b → okB L (unA w L cs f i b m).2
  | 0, _, _, _, _, h => h
  | f + 1, i, b, m, hi, h => by
    unfold unA
    split
    · exact okB_unA f (i + 1) _ _ (by omega) h
    · exact okB_unA f (i + 1) _ _ (by omega) (okB_bst h (by omega))
set_option maxRecDepth 100000 in
set_option maxHeartbeats 4000000 in
theorem cX_unread_loop (d : Nat) (h : x_H) {n : Nat} {cs : Nat → Nat} (hX : h 0 = x_x) (hD : h 1 = x_dy n) (hG : h 2 = x_sg cs) (hok : okD n cs) {L w : Nat} (hL1 : 1 ≤ L) (hL9 : L ≤ 9) (hw : w ≤ 2) (i1 : Int32) (Q : Option Value → x_H → Prop) :
    ∀ (f i : Nat) (b : Bd) (m : Nat), i + f = n → okB L b → Q (some (.long (lN (unA w L cs f i b m).1))) (x_up h 9 (x_bd L w (unA w L cs f i b m).2)) →
      x_V (d + 4) mX4_unread 20 (x_ls [some (.ref 0), some (.int i1), some (.long (lN m)), none, some (.int (nI i))]) [] (x_up h 9 (x_bd L w b)) Q := by
  have hn := hok.1
  intro f
  induction f with
  | zero =>
    intro i b m hi hb hq
    refine x_iload dX4_unread_20 rfl ?_
    refine x_aload_n (i := 0) dX4_unread_22 rfl rfl ?_
    refine x_get flX4_12 dX4_unread_23 (by first | assumption | decide) (by first | assumption | exact x_up_s | (refine (x_up_n (by first | assumption | decide)).trans ?_; first | assumption | exact x_up_s | (refine (x_up_n (by first | assumption | decide)).trans ?_; first | assumption | exact x_up_s | (refine (x_up_n (by first | assumption | decide)).trans ?_; first | assumption | exact x_up_s | (refine (x_up_n (by first | assumption | decide)).trans ?_; first | assumption | exact x_up_s | (refine (x_up_n (by first | assumption | decide)).trans ?_; first | assumption | exact x_up_s | (refine (x_up_n (by first | assumption | decide)).trans ?_; first | assumption | exact x_up_s | (refine (x_up_n (by first | assumption | decide)).trans ?_; first | assumption | exact x_up_s)))))))) rfl ?_
    refine x_get flX4_68 dX4_unread_26 (by first | assumption | decide) (by first | assumption | exact x_up_s | (refine (x_up_n (by first | assumption | decide)).trans ?_; first | assumption | exact x_up_s | (refine (x_up_n (by first | assumption | decide)).trans ?_; first | assumption | exact x_up_s | (refine (x_up_n (by first | assumption | decide)).trans ?_; first | assumption | exact x_up_s | (refine (x_up_n (by first | assumption | decide)).trans ?_; first | assumption | exact x_up_s | (refine (x_up_n (by first | assumption | decide)).trans ?_; first | assumption | exact x_up_s | (refine (x_up_n (by first | assumption | decide)).trans ?_; first | assumption | exact x_up_s | (refine (x_up_n (by first | assumption | decide)).trans ?_; first | assumption | exact x_up_s)))))))) rfl ?_
    refine x_icmp_ge 81 dX4_unread_29 (by decide) (fun _ => ?_) (fun hc => absurd (nI_le (by omega) (by omega)) hc)
    refine x_lload_n (i := 2) dX4_unread_81 rfl rfl ?_
    refine x_lret dX4_unread_82 rfl hq
  | succ f ih =>
    intro i b m hi hb hq
    have hcd : cd n cs (nI i) = cs i := cd_in (by omega) hn
    unfold unA at hq
    refine x_iload dX4_unread_20 rfl ?_
    refine x_aload_n (i := 0) dX4_unread_22 rfl rfl ?_
    refine x_get flX4_12 dX4_unread_23 (by first | assumption | decide) (by first | assumption | exact x_up_s | (refine (x_up_n (by first | assumption | decide)).trans ?_; first | assumption | exact x_up_s | (refine (x_up_n (by first | assumption | decide)).trans ?_; first | assumption | exact x_up_s | (refine (x_up_n (by first | assumption | decide)).trans ?_; first | assumption | exact x_up_s | (refine (x_up_n (by first | assumption | decide)).trans ?_; first | assumption | exact x_up_s | (refine (x_up_n (by first | assumption | decide)).trans ?_; first | assumption | exact x_up_s | (refine (x_up_n (by first | assumption | decide)).trans ?_; first | assumption | exact x_up_s | (refine (x_up_n (by first | assumption | decide)).trans ?_; first | assumption | exact x_up_s)))))))) rfl ?_
    refine x_get flX4_68 dX4_unread_26 (by first | assumption | decide) (by first | assumption | exact x_up_s | (refine (x_up_n (by first | assumption | decide)).trans ?_; first | assumption | exact x_up_s | (refine (x_up_n (by first | assumption | decide)).trans ?_; first | assumption | exact x_up_s | (refine (x_up_n (by first | assumption | decide)).trans ?_; first | assumption | exact x_up_s | (refine (x_up_n (by first | assumption | decide)).trans ?_; first | assumption | exact x_up_s | (refine (x_up_n (by first | assumption | decide)).trans ?_; first | assumption | exact x_up_s | (refine (x_up_n (by first | assumption | decide)).trans ?_; first | assumption | exact x_up_s | (refine (x_up_n (by first | assumption | decide)).trans ?_; first | assumption | exact x_up_s)))))))) rfl ?_
    refine x_icmp_ge 81 dX4_unread_29 (by decide) (fun hc => absurd hc (nI_ge (by omega) (by omega))) (fun _ => ?_)
    refine x_aload_n (i := 0) dX4_unread_32 rfl rfl ?_
    refine x_get flX4_12 dX4_unread_33 (by first | assumption | decide) (by first | assumption | exact x_up_s | (refine (x_up_n (by first | assumption | decide)).trans ?_; first | assumption | exact x_up_s | (refine (x_up_n (by first | assumption | decide)).trans ?_; first | assumption | exact x_up_s | (refine (x_up_n (by first | assumption | decide)).trans ?_; first | assumption | exact x_up_s | (refine (x_up_n (by first | assumption | decide)).trans ?_; first | assumption | exact x_up_s | (refine (x_up_n (by first | assumption | decide)).trans ?_; first | assumption | exact x_up_s | (refine (x_up_n (by first | assumption | decide)).trans ?_; first | assumption | exact x_up_s | (refine (x_up_n (by first | assumption | decide)).trans ?_; first | assumption | exact x_up_s)))))))) rfl ?_
    refine x_iload dX4_unread_36 rfl ?_
    refine x_invV clX4_99 dX4_unread_38 (cD_looker (d + 2) _ (by first | assumption | exact x_up_s | (refine (x_up_n (by first | assumption | decide)).trans ?_; first | assumption | exact x_up_s | (refine (x_up_n (by first | assumption | decide)).trans ?_; first | assumption | exact x_up_s | (refine (x_up_n (by first | assumption | decide)).trans ?_; first | assumption | exact x_up_s | (refine (x_up_n (by first | assumption | decide)).trans ?_; first | assumption | exact x_up_s | (refine (x_up_n (by first | assumption | decide)).trans ?_; first | assumption | exact x_up_s | (refine (x_up_n (by first | assumption | decide)).trans ?_; first | assumption | exact x_up_s | (refine (x_up_n (by first | assumption | decide)).trans ?_; first | assumption | exact x_up_s)))))))) (by first | assumption | exact x_up_s | (refine (x_up_n (by first | assumption | decide)).trans ?_; first | assumption | exact x_up_s | (refine (x_up_n (by first | assumption | decide)).trans ?_; first | assumption | exact x_up_s | (refine (x_up_n (by first | assumption | decide)).trans ?_; first | assumption | exact x_up_s | (refine (x_up_n (by first | assumption | decide)).trans ?_; first | assumption | exact x_up_s | (refine (x_up_n (by first | assumption | decide)).trans ?_; first | assumption | exact x_up_s | (refine (x_up_n (by first | assumption | decide)).trans ?_; first | assumption | exact x_up_s | (refine (x_up_n (by first | assumption | decide)).trans ?_; first | assumption | exact x_up_s)))))))) hok (nI i)) (by omega) rfl (by first | assumption | decide) (by first | assumption | exact x_up_s | (refine (x_up_n (by first | assumption | decide)).trans ?_; first | assumption | exact x_up_s | (refine (x_up_n (by first | assumption | decide)).trans ?_; first | assumption | exact x_up_s | (refine (x_up_n (by first | assumption | decide)).trans ?_; first | assumption | exact x_up_s | (refine (x_up_n (by first | assumption | decide)).trans ?_; first | assumption | exact x_up_s | (refine (x_up_n (by first | assumption | decide)).trans ?_; first | assumption | exact x_up_s | (refine (x_up_n (by first | assumption | decide)).trans ?_; first | assumption | exact x_up_s | (refine (x_up_n (by first | assumption | decide)).trans ?_; first | assumption | exact x_up_s)))))))) rfl (Nat.le_of_ble_eq_true rfl) ?_
    rintro r h' ⟨rfl, rfl⟩
    rw [hcd]
    cases hl : lkN (cs i) with
    | some l =>
      have hl8 := lkN_lt hl
      rw [hl] at hq
      simp only [Option.isSome_some, if_true] at hq
      refine x_iconst (v := (-1)) dX4_unread_41 (by decide) ?_
      refine x_icmp_eq 62 dX4_unread_42 (by decide) (fun hc => absurd hc (nI_neg1 (by omega))) (fun _ => ?_)
      refine x_lload_n (i := 2) dX4_unread_45 rfl rfl ?_
      refine x_aload_n (i := 0) dX4_unread_46 rfl rfl ?_
      refine x_get flX4_34 dX4_unread_47 (by first | assumption | decide) (by first | assumption | exact x_up_s | (refine (x_up_n (by first | assumption | decide)).trans ?_; first | assumption | exact x_up_s | (refine (x_up_n (by first | assumption | decide)).trans ?_; first | assumption | exact x_up_s | (refine (x_up_n (by first | assumption | decide)).trans ?_; first | assumption | exact x_up_s | (refine (x_up_n (by first | assumption | decide)).trans ?_; first | assumption | exact x_up_s | (refine (x_up_n (by first | assumption | decide)).trans ?_; first | assumption | exact x_up_s | (refine (x_up_n (by first | assumption | decide)).trans ?_; first | assumption | exact x_up_s | (refine (x_up_n (by first | assumption | decide)).trans ?_; first | assumption | exact x_up_s)))))))) rfl ?_
      refine x_invV clX4_142 dX4_unread_50 (cB_writtenEvents d 9 (by decide) _ x_up_s hb) (by omega) rfl (by first | assumption | decide) (by first | assumption | exact x_up_s | (refine (x_up_n (by first | assumption | decide)).trans ?_; first | assumption | exact x_up_s | (refine (x_up_n (by first | assumption | decide)).trans ?_; first | assumption | exact x_up_s | (refine (x_up_n (by first | assumption | decide)).trans ?_; first | assumption | exact x_up_s | (refine (x_up_n (by first | assumption | decide)).trans ?_; first | assumption | exact x_up_s | (refine (x_up_n (by first | assumption | decide)).trans ?_; first | assumption | exact x_up_s | (refine (x_up_n (by first | assumption | decide)).trans ?_; first | assumption | exact x_up_s | (refine (x_up_n (by first | assumption | decide)).trans ?_; first | assumption | exact x_up_s)))))))) rfl (Nat.le_of_ble_eq_true rfl) ?_
      rintro r h' ⟨rfl, rfl⟩
      refine x_ldc2 cnX4_146 dX4_unread_53 ?_
      refine x_lxor dX4_unread_56 ?_
      refine x_land dX4_unread_57 ?_
      refine x_topl (l_andN _ _) ?_
      refine x_lstore_n (i := 2) dX4_unread_58 rfl (by decide) ?_
      refine x_goto 75 dX4_unread_59 (by decide) ?_
      first | refine x_incN dX4_unread_75 rfl (by decide) ?_ | refine x_iinc dX4_unread_75 rfl rfl (by decide) ?_
      refine x_goto 20 dX4_unread_78 (by decide) ?_
      exact x_wk (ih (i + 1) b _ (by omega) hb hq) ⟨rfl, rfl, rfl, rfl, trivial⟩
    | none =>
      rw [hl] at hq
      simp only [Option.isSome_none, Bool.false_eq_true, if_false] at hq
      refine x_iconst (v := (-1)) dX4_unread_41 (by decide) ?_
      refine x_icmp_eq 62 dX4_unread_42 (by decide) (fun _ => ?_) (fun hc => absurd (rfl) hc)
      refine x_aload_n (i := 0) dX4_unread_62 rfl rfl ?_
      refine x_iload dX4_unread_63 rfl ?_
      refine x_invV clX4_96 dX4_unread_65 (cX_step d _ (by first | assumption | exact x_up_s | (refine (x_up_n (by first | assumption | decide)).trans ?_; first | assumption | exact x_up_s | (refine (x_up_n (by first | assumption | decide)).trans ?_; first | assumption | exact x_up_s | (refine (x_up_n (by first | assumption | decide)).trans ?_; first | assumption | exact x_up_s | (refine (x_up_n (by first | assumption | decide)).trans ?_; first | assumption | exact x_up_s | (refine (x_up_n (by first | assumption | decide)).trans ?_; first | assumption | exact x_up_s | (refine (x_up_n (by first | assumption | decide)).trans ?_; first | assumption | exact x_up_s | (refine (x_up_n (by first | assumption | decide)).trans ?_; first | assumption | exact x_up_s)))))))) (by first | assumption | exact x_up_s | (refine (x_up_n (by first | assumption | decide)).trans ?_; first | assumption | exact x_up_s | (refine (x_up_n (by first | assumption | decide)).trans ?_; first | assumption | exact x_up_s | (refine (x_up_n (by first | assumption | decide)).trans ?_; first | assumption | exact x_up_s | (refine (x_up_n (by first | assumption | decide)).trans ?_; first | assumption | exact x_up_s | (refine (x_up_n (by first | assumption | decide)).trans ?_; first | assumption | exact x_up_s | (refine (x_up_n (by first | assumption | decide)).trans ?_; first | assumption | exact x_up_s | (refine (x_up_n (by first | assumption | decide)).trans ?_; first | assumption | exact x_up_s)))))))) (by first | assumption | exact x_up_s | (refine (x_up_n (by first | assumption | decide)).trans ?_; first | assumption | exact x_up_s | (refine (x_up_n (by first | assumption | decide)).trans ?_; first | assumption | exact x_up_s | (refine (x_up_n (by first | assumption | decide)).trans ?_; first | assumption | exact x_up_s | (refine (x_up_n (by first | assumption | decide)).trans ?_; first | assumption | exact x_up_s | (refine (x_up_n (by first | assumption | decide)).trans ?_; first | assumption | exact x_up_s | (refine (x_up_n (by first | assumption | decide)).trans ?_; first | assumption | exact x_up_s | (refine (x_up_n (by first | assumption | decide)).trans ?_; first | assumption | exact x_up_s)))))))) hok x_up_s hb hw i (by omega)) (by omega) rfl (by first | assumption | decide) (by first | assumption | exact x_up_s | (refine (x_up_n (by first | assumption | decide)).trans ?_; first | assumption | exact x_up_s | (refine (x_up_n (by first | assumption | decide)).trans ?_; first | assumption | exact x_up_s | (refine (x_up_n (by first | assumption | decide)).trans ?_; first | assumption | exact x_up_s | (refine (x_up_n (by first | assumption | decide)).trans ?_; first | assumption | exact x_up_s | (refine (x_up_n (by first | assumption | decide)).trans ?_; first | assumption | exact x_up_s | (refine (x_up_n (by first | assumption | decide)).trans ?_; first | assumption | exact x_up_s | (refine (x_up_n (by first | assumption | decide)).trans ?_; first | assumption | exact x_up_s)))))))) rfl (Nat.le_of_ble_eq_true rfl) ?_
      rintro r h' ⟨rfl, rfl⟩
      rw [x_up_up]
      refine x_lload_n (i := 2) dX4_unread_68 rfl rfl ?_
      refine x_lconst (v := 1) dX4_unread_69 (by decide) ?_
      refine x_iload dX4_unread_70 rfl ?_
      refine x_lshl dX4_unread_72 ?_
      refine x_lor dX4_unread_73 ?_
      refine x_topl (y := lN (m ||| 2 ^ i)) (by rw [l_one_shl (by omega), l_or]) ?_
      refine x_lstore_n (i := 2) dX4_unread_74 rfl (by decide) ?_
      first | refine x_incN dX4_unread_75 rfl (by decide) ?_ | refine x_iinc dX4_unread_75 rfl rfl (by decide) ?_
      refine x_goto 20 dX4_unread_78 (by decide) ?_
      exact x_wk (ih (i + 1) _ _ (by omega) (okB_bst hb (by omega)) hq) ⟨rfl, rfl, rfl, rfl, trivial⟩
set_option maxRecDepth 100000 in
set_option maxHeartbeats 4000000 in
theorem cX_unread (d : Nat) (h : x_H) {n : Nat} {cs : Nat → Nat} (hX : h 0 = x_x) (hD : h 1 = x_dy n) (hG : h 2 = x_sg cs) (hok : okD n cs) {L w q : Nat} (hS : h 3 = x_st L w q) (hL1 : 1 ≤ L) (hL9 : L ≤ 9) (hw : w ≤ 2) {i1 i2 : Int32} {l1 l2 l3 l4 : Int64} (hB : h 9 = x_bd0 i1 i2 l1 l2 l3 l4) (K : Nat) (hK1 : 1 ≤ K) (hK9 : K ≤ 9) : x_Ct (d + 4) mX4_unread [.ref 0, .int (nI K)] h (fun r h' => r = some (.long (lN (unA w K cs n 0 [] 0).1)) ∧ h' = x_up h 9 (x_bd K w (unA w K cs n 0 [] 0).2)) := by
  refine x_enter pnX4_unread (Nat.le_of_ble_eq_true rfl) ?_
  refine x_lconst (v := 0) dX4_unread_0 (by decide) ?_
  refine x_lstore_n (i := 2) dX4_unread_1 rfl (by decide) ?_
  refine x_aload_n (i := 0) dX4_unread_2 rfl rfl ?_
  refine x_get flX4_34 dX4_unread_3 (by first | assumption | decide) (by first | assumption | exact x_up_s | (refine (x_up_n (by first | assumption | decide)).trans ?_; first | assumption | exact x_up_s | (refine (x_up_n (by first | assumption | decide)).trans ?_; first | assumption | exact x_up_s | (refine (x_up_n (by first | assumption | decide)).trans ?_; first | assumption | exact x_up_s | (refine (x_up_n (by first | assumption | decide)).trans ?_; first | assumption | exact x_up_s | (refine (x_up_n (by first | assumption | decide)).trans ?_; first | assumption | exact x_up_s | (refine (x_up_n (by first | assumption | decide)).trans ?_; first | assumption | exact x_up_s | (refine (x_up_n (by first | assumption | decide)).trans ?_; first | assumption | exact x_up_s)))))))) rfl ?_
  refine x_iload_n (i := 1) dX4_unread_6 rfl rfl ?_
  refine x_aload_n (i := 0) dX4_unread_7 rfl rfl ?_
  refine x_get flX4_19 dX4_unread_8 (by first | assumption | decide) (by first | assumption | exact x_up_s | (refine (x_up_n (by first | assumption | decide)).trans ?_; first | assumption | exact x_up_s | (refine (x_up_n (by first | assumption | decide)).trans ?_; first | assumption | exact x_up_s | (refine (x_up_n (by first | assumption | decide)).trans ?_; first | assumption | exact x_up_s | (refine (x_up_n (by first | assumption | decide)).trans ?_; first | assumption | exact x_up_s | (refine (x_up_n (by first | assumption | decide)).trans ?_; first | assumption | exact x_up_s | (refine (x_up_n (by first | assumption | decide)).trans ?_; first | assumption | exact x_up_s | (refine (x_up_n (by first | assumption | decide)).trans ?_; first | assumption | exact x_up_s)))))))) rfl ?_
  refine x_get flX4_65 dX4_unread_11 (by first | assumption | decide) (by first | assumption | exact x_up_s | (refine (x_up_n (by first | assumption | decide)).trans ?_; first | assumption | exact x_up_s | (refine (x_up_n (by first | assumption | decide)).trans ?_; first | assumption | exact x_up_s | (refine (x_up_n (by first | assumption | decide)).trans ?_; first | assumption | exact x_up_s | (refine (x_up_n (by first | assumption | decide)).trans ?_; first | assumption | exact x_up_s | (refine (x_up_n (by first | assumption | decide)).trans ?_; first | assumption | exact x_up_s | (refine (x_up_n (by first | assumption | decide)).trans ?_; first | assumption | exact x_up_s | (refine (x_up_n (by first | assumption | decide)).trans ?_; first | assumption | exact x_up_s)))))))) rfl ?_
  refine x_invV clX4_93 dX4_unread_14 (cB_begin d 9 (by decide) h hB K w hK9) (by omega) rfl (by first | assumption | decide) (by first | assumption | exact x_up_s | (refine (x_up_n (by first | assumption | decide)).trans ?_; first | assumption | exact x_up_s | (refine (x_up_n (by first | assumption | decide)).trans ?_; first | assumption | exact x_up_s | (refine (x_up_n (by first | assumption | decide)).trans ?_; first | assumption | exact x_up_s | (refine (x_up_n (by first | assumption | decide)).trans ?_; first | assumption | exact x_up_s | (refine (x_up_n (by first | assumption | decide)).trans ?_; first | assumption | exact x_up_s | (refine (x_up_n (by first | assumption | decide)).trans ?_; first | assumption | exact x_up_s | (refine (x_up_n (by first | assumption | decide)).trans ?_; first | assumption | exact x_up_s)))))))) rfl (Nat.le_of_ble_eq_true rfl) ?_
  rintro r h' ⟨rfl, rfl⟩
  refine x_iconst (v := 0) dX4_unread_17 (by decide) ?_
  refine x_istore dX4_unread_18 (by decide) ?_
  exact x_wk (cX_unread_loop d h hX hD hG hok hK1 hK9 hw _ _ n 0 [] 0 (by omega) (okB_nil hK1 hK9) ⟨rfl, rfl⟩) ⟨rfl, rfl, rfl, rfl, trivial⟩
