abbrev x_la (n : Nat) (f : Nat → Int64) : x_E := .inl (2, n, .inr (.inl f))
def mkA (w L : Nat) (cs : Nat → Nat) : Nat → Nat → Nat → Bd → (Nat → Int64) → Bd × (Nat → Int64)
  | 0, _, _, b, g => (b, g)
  | f + 1, i, k, b, g =>
    let b1 := bst w L cs i b
    if crP cs i = true ∧ k < 12 then mkA w L cs f (i + 1) (k + 1) b1 (vp_updL g k (lN (wev b1))) else mkA w L cs f (i + 1) k b1 g
set_option maxRecDepth 100000 in
set_option maxHeartbeats 4000000 in
theorem cX_mark_loop (d : Nat) (h : x_H) {n : Nat} {cs : Nat → Nat} (hX : h 0 = x_x) (hD : h 1 = x_dy n) (hG : h 2 = x_sg cs) (hok : okD n cs) {L w : Nat} (hL1 : 1 ≤ L) (hL9 : L ≤ 9) (hw : w ≤ 2) (Q : Option Value → x_H → Prop) :
    ∀ (f i k : Nat) (b : Bd) (g : Nat → Int64), i + f = n → k ≤ i → okB L b → Q none (x_up (x_up h 21 (x_la 12 (mkA w L cs f i k b g).2)) 9 (x_bd L w (mkA w L cs f i k b g).1)) →
      x_V (d + 4) mX4_markStanding 25 (x_ls [some (.ref 0), some (.int (nI k)), some (.int (nI i))]) [] (x_up (x_up h 21 (x_la 12 g)) 9 (x_bd L w b)) Q := by
  have hn := hok.1
  intro f
  induction f with
  | zero =>
    intro i k b g hi hk hb hq
    refine x_iload_n (i := 2) dX4_markStanding_25 rfl rfl ?_
    refine x_aload_n (i := 0) dX4_markStanding_26 rfl rfl ?_
    refine x_get flX4_12 dX4_markStanding_27 (by first | decide | assumption) (by first | assumption | exact x_up_s | (refine (x_up_n (by first | decide | assumption)).trans ?_; first | assumption | exact x_up_s | (refine (x_up_n (by first | decide | assumption)).trans ?_; first | assumption | exact x_up_s | (refine (x_up_n (by first | decide | assumption)).trans ?_; first | assumption | exact x_up_s | (refine (x_up_n (by first | decide | assumption)).trans ?_; first | assumption | exact x_up_s | (refine (x_up_n (by first | decide | assumption)).trans ?_; first | assumption | exact x_up_s | (refine (x_up_n (by first | decide | assumption)).trans ?_; first | assumption | exact x_up_s | (refine (x_up_n (by first | decide | assumption)).trans ?_; first | assumption | exact x_up_s)))))))) rfl ?_
    refine x_get flX4_68 dX4_markStanding_30 (by first | decide | assumption) (by first | assumption | exact x_up_s | (refine (x_up_n (by first | decide | assumption)).trans ?_; first | assumption | exact x_up_s | (refine (x_up_n (by first | decide | assumption)).trans ?_; first | assumption | exact x_up_s | (refine (x_up_n (by first | decide | assumption)).trans ?_; first | assumption | exact x_up_s | (refine (x_up_n (by first | decide | assumption)).trans ?_; first | assumption | exact x_up_s | (refine (x_up_n (by first | decide | assumption)).trans ?_; first | assumption | exact x_up_s | (refine (x_up_n (by first | decide | assumption)).trans ?_; first | assumption | exact x_up_s | (refine (x_up_n (by first | decide | assumption)).trans ?_; first | assumption | exact x_up_s)))))))) rfl ?_
    refine x_icmp_ge 84 dX4_markStanding_33 (by decide) (fun _ => ?_) (fun hc => absurd (nI_le (by omega) (by omega)) hc)
    refine x_vret dX4_markStanding_84 rfl hq
  | succ f ih =>
    intro i k b g hi hk hb hq
    have hcd : cd n cs (nI i) = cs i := cd_in (by omega) hn
    unfold mkA at hq
    dsimp only at hq
    refine x_iload_n (i := 2) dX4_markStanding_25 rfl rfl ?_
    refine x_aload_n (i := 0) dX4_markStanding_26 rfl rfl ?_
    refine x_get flX4_12 dX4_markStanding_27 (by first | decide | assumption) (by first | assumption | exact x_up_s | (refine (x_up_n (by first | decide | assumption)).trans ?_; first | assumption | exact x_up_s | (refine (x_up_n (by first | decide | assumption)).trans ?_; first | assumption | exact x_up_s | (refine (x_up_n (by first | decide | assumption)).trans ?_; first | assumption | exact x_up_s | (refine (x_up_n (by first | decide | assumption)).trans ?_; first | assumption | exact x_up_s | (refine (x_up_n (by first | decide | assumption)).trans ?_; first | assumption | exact x_up_s | (refine (x_up_n (by first | decide | assumption)).trans ?_; first | assumption | exact x_up_s | (refine (x_up_n (by first | decide | assumption)).trans ?_; first | assumption | exact x_up_s)))))))) rfl ?_
    refine x_get flX4_68 dX4_markStanding_30 (by first | decide | assumption) (by first | assumption | exact x_up_s | (refine (x_up_n (by first | decide | assumption)).trans ?_; first | assumption | exact x_up_s | (refine (x_up_n (by first | decide | assumption)).trans ?_; first | assumption | exact x_up_s | (refine (x_up_n (by first | decide | assumption)).trans ?_; first | assumption | exact x_up_s | (refine (x_up_n (by first | decide | assumption)).trans ?_; first | assumption | exact x_up_s | (refine (x_up_n (by first | decide | assumption)).trans ?_; first | assumption | exact x_up_s | (refine (x_up_n (by first | decide | assumption)).trans ?_; first | assumption | exact x_up_s | (refine (x_up_n (by first | decide | assumption)).trans ?_; first | assumption | exact x_up_s)))))))) rfl ?_
    refine x_icmp_ge 84 dX4_markStanding_33 (by decide) (fun hc => absurd hc (nI_ge (by omega) (by omega))) (fun _ => ?_)
    refine x_aload_n (i := 0) dX4_markStanding_36 rfl rfl ?_
    refine x_iload_n (i := 2) dX4_markStanding_37 rfl rfl ?_
    refine x_invV clX4_96 dX4_markStanding_38 (cX_step d _ (by first | assumption | exact x_up_s | (refine (x_up_n (by first | decide | assumption)).trans ?_; first | assumption | exact x_up_s | (refine (x_up_n (by first | decide | assumption)).trans ?_; first | assumption | exact x_up_s | (refine (x_up_n (by first | decide | assumption)).trans ?_; first | assumption | exact x_up_s | (refine (x_up_n (by first | decide | assumption)).trans ?_; first | assumption | exact x_up_s | (refine (x_up_n (by first | decide | assumption)).trans ?_; first | assumption | exact x_up_s | (refine (x_up_n (by first | decide | assumption)).trans ?_; first | assumption | exact x_up_s | (refine (x_up_n (by first | decide | assumption)).trans ?_; first | assumption | exact x_up_s)))))))) (by first | assumption | exact x_up_s | (refine (x_up_n (by first | decide | assumption)).trans ?_; first | assumption | exact x_up_s | (refine (x_up_n (by first | decide | assumption)).trans ?_; first | assumption | exact x_up_s | (refine (x_up_n (by first | decide | assumption)).trans ?_; first | assumption | exact x_up_s | (refine (x_up_n (by first | decide | assumption)).trans ?_; first | assumption | exact x_up_s | (refine (x_up_n (by first | decide | assumption)).trans ?_; first | assumption | exact x_up_s | (refine (x_up_n (by first | decide | assumption)).trans ?_; first | assumption | exact x_up_s | (refine (x_up_n (by first | decide | assumption)).trans ?_; first | assumption | exact x_up_s)))))))) (by first | assumption | exact x_up_s | (refine (x_up_n (by first | decide | assumption)).trans ?_; first | assumption | exact x_up_s | (refine (x_up_n (by first | decide | assumption)).trans ?_; first | assumption | exact x_up_s | (refine (x_up_n (by first | decide | assumption)).trans ?_; first | assumption | exact x_up_s | (refine (x_up_n (by first | decide | assumption)).trans ?_; first | assumption | exact x_up_s | (refine (x_up_n (by first | decide | assumption)).trans ?_; first | assumption | exact x_up_s | (refine (x_up_n (by first | decide | assumption)).trans ?_; first | assumption | exact x_up_s | (refine (x_up_n (by first | decide | assumption)).trans ?_; first | assumption | exact x_up_s)))))))) hok x_up_s hb hw i (by omega)) (by omega) rfl (by first | decide | assumption) (by first | assumption | exact x_up_s | (refine (x_up_n (by first | decide | assumption)).trans ?_; first | assumption | exact x_up_s | (refine (x_up_n (by first | decide | assumption)).trans ?_; first | assumption | exact x_up_s | (refine (x_up_n (by first | decide | assumption)).trans ?_; first | assumption | exact x_up_s | (refine (x_up_n (by first | decide | assumption)).trans ?_; first | assumption | exact x_up_s | (refine (x_up_n (by first | decide | assumption)).trans ?_; first | assumption | exact x_up_s | (refine (x_up_n (by first | decide | assumption)).trans ?_; first | assumption | exact x_up_s | (refine (x_up_n (by first | decide | assumption)).trans ?_; first | assumption | exact x_up_s)))))))) rfl (Nat.le_of_ble_eq_true rfl) ?_
    rintro r h' ⟨rfl, rfl⟩
    rw [x_up_up]
    have hb2 : okB L (bst w L cs i b) := okB_bst hb (by omega)
    generalize bst w L cs i b = b2 at hq hb2 ⊢
    refine x_aload_n (i := 0) dX4_markStanding_41 rfl rfl ?_
    refine x_get flX4_12 dX4_markStanding_42 (by first | decide | assumption) (by first | assumption | exact x_up_s | (refine (x_up_n (by first | decide | assumption)).trans ?_; first | assumption | exact x_up_s | (refine (x_up_n (by first | decide | assumption)).trans ?_; first | assumption | exact x_up_s | (refine (x_up_n (by first | decide | assumption)).trans ?_; first | assumption | exact x_up_s | (refine (x_up_n (by first | decide | assumption)).trans ?_; first | assumption | exact x_up_s | (refine (x_up_n (by first | decide | assumption)).trans ?_; first | assumption | exact x_up_s | (refine (x_up_n (by first | decide | assumption)).trans ?_; first | assumption | exact x_up_s | (refine (x_up_n (by first | decide | assumption)).trans ?_; first | assumption | exact x_up_s)))))))) rfl ?_
    refine x_iload_n (i := 2) dX4_markStanding_45 rfl rfl ?_
    refine x_invV clX4_183 dX4_markStanding_46 (cD_crosser (d + 2) _ (by first | assumption | exact x_up_s | (refine (x_up_n (by first | decide | assumption)).trans ?_; first | assumption | exact x_up_s | (refine (x_up_n (by first | decide | assumption)).trans ?_; first | assumption | exact x_up_s | (refine (x_up_n (by first | decide | assumption)).trans ?_; first | assumption | exact x_up_s | (refine (x_up_n (by first | decide | assumption)).trans ?_; first | assumption | exact x_up_s | (refine (x_up_n (by first | decide | assumption)).trans ?_; first | assumption | exact x_up_s | (refine (x_up_n (by first | decide | assumption)).trans ?_; first | assumption | exact x_up_s | (refine (x_up_n (by first | decide | assumption)).trans ?_; first | assumption | exact x_up_s)))))))) (by first | assumption | exact x_up_s | (refine (x_up_n (by first | decide | assumption)).trans ?_; first | assumption | exact x_up_s | (refine (x_up_n (by first | decide | assumption)).trans ?_; first | assumption | exact x_up_s | (refine (x_up_n (by first | decide | assumption)).trans ?_; first | assumption | exact x_up_s | (refine (x_up_n (by first | decide | assumption)).trans ?_; first | assumption | exact x_up_s | (refine (x_up_n (by first | decide | assumption)).trans ?_; first | assumption | exact x_up_s | (refine (x_up_n (by first | decide | assumption)).trans ?_; first | assumption | exact x_up_s | (refine (x_up_n (by first | decide | assumption)).trans ?_; first | assumption | exact x_up_s)))))))) hok (nI i)) (by omega) rfl (by first | decide | assumption) (by first | assumption | exact x_up_s | (refine (x_up_n (by first | decide | assumption)).trans ?_; first | assumption | exact x_up_s | (refine (x_up_n (by first | decide | assumption)).trans ?_; first | assumption | exact x_up_s | (refine (x_up_n (by first | decide | assumption)).trans ?_; first | assumption | exact x_up_s | (refine (x_up_n (by first | decide | assumption)).trans ?_; first | assumption | exact x_up_s | (refine (x_up_n (by first | decide | assumption)).trans ?_; first | assumption | exact x_up_s | (refine (x_up_n (by first | decide | assumption)).trans ?_; first | assumption | exact x_up_s | (refine (x_up_n (by first | decide | assumption)).trans ?_; first | assumption | exact x_up_s)))))))) rfl (Nat.le_of_ble_eq_true rfl) ?_
    rintro r h' ⟨rfl, rfl⟩
    rw [hcd]
    cases hl : crN (cs i) with
    | none =>
      have hcp : crP cs i = false := by unfold crP; rw [hl]; rfl
      rw [if_neg (fun q => by rw [hcp] at q; exact absurd q.1 (by decide))] at hq
      refine x_iconst (v := (-1)) dX4_markStanding_49 (by decide) ?_
      refine x_icmp_eq 78 dX4_markStanding_50 (by decide) (fun _ => ?_) (fun hc => absurd (rfl) hc)
      first | refine x_incN dX4_markStanding_78 rfl (by decide) ?_ | refine x_iinc dX4_markStanding_78 rfl rfl (by decide) ?_
      refine x_goto 25 dX4_markStanding_81 (by decide) ?_
      exact x_wk (ih (i + 1) k b2 g (by omega) (by omega) hb2 hq) ⟨rfl, rfl, rfl, trivial⟩
    | some p =>
      have hp8 := crN_lt hl
      have hcp : crP cs i = true := by unfold crP; rw [hl]; rfl
      refine x_iconst (v := (-1)) dX4_markStanding_49 (by decide) ?_
      refine x_icmp_eq 78 dX4_markStanding_50 (by decide) (fun hc => absurd hc (nI_neg1 (by omega))) (fun _ => ?_)
      refine x_iload_n (i := 1) dX4_markStanding_53 rfl rfl ?_
      refine x_aload_n (i := 0) dX4_markStanding_54 rfl rfl ?_
      refine x_get flX4_49 dX4_markStanding_55 (by first | decide | assumption) (by first | assumption | exact x_up_s | (refine (x_up_n (by first | decide | assumption)).trans ?_; first | assumption | exact x_up_s | (refine (x_up_n (by first | decide | assumption)).trans ?_; first | assumption | exact x_up_s | (refine (x_up_n (by first | decide | assumption)).trans ?_; first | assumption | exact x_up_s | (refine (x_up_n (by first | decide | assumption)).trans ?_; first | assumption | exact x_up_s | (refine (x_up_n (by first | decide | assumption)).trans ?_; first | assumption | exact x_up_s | (refine (x_up_n (by first | decide | assumption)).trans ?_; first | assumption | exact x_up_s | (refine (x_up_n (by first | decide | assumption)).trans ?_; first | assumption | exact x_up_s)))))))) rfl ?_
      refine x_alen dX4_markStanding_58 (by first | decide | assumption) (by first | assumption | exact x_up_s | (refine (x_up_n (by first | decide | assumption)).trans ?_; first | assumption | exact x_up_s | (refine (x_up_n (by first | decide | assumption)).trans ?_; first | assumption | exact x_up_s | (refine (x_up_n (by first | decide | assumption)).trans ?_; first | assumption | exact x_up_s | (refine (x_up_n (by first | decide | assumption)).trans ?_; first | assumption | exact x_up_s | (refine (x_up_n (by first | decide | assumption)).trans ?_; first | assumption | exact x_up_s | (refine (x_up_n (by first | decide | assumption)).trans ?_; first | assumption | exact x_up_s | (refine (x_up_n (by first | decide | assumption)).trans ?_; first | assumption | exact x_up_s)))))))) (by decide) ?_
      refine x_icmp_ge 78 dX4_markStanding_59 (by decide) (fun hc => ?_) (fun hc => ?_)
      · have hk6 : ¬ k < 12 := by have := (nI_leI (a := 12) (by decide) (by omega)).mp hc; omega
        rw [if_neg (fun q => hk6 q.2)] at hq
        first | refine x_incN dX4_markStanding_78 rfl (by decide) ?_ | refine x_iinc dX4_markStanding_78 rfl rfl (by decide) ?_
        refine x_goto 25 dX4_markStanding_81 (by decide) ?_
        exact x_wk (ih (i + 1) k b2 g (by omega) (by omega) hb2 hq) ⟨rfl, rfl, rfl, trivial⟩
      · have hk6 : k < 12 := by
          rcases Nat.lt_or_ge k 12 with q | q
          · exact q
          · exact absurd (nI_le (a := 12) q (by omega)) hc
        rw [if_pos ⟨hcp, hk6⟩] at hq
        refine x_aload_n (i := 0) dX4_markStanding_62 rfl rfl ?_
        refine x_get flX4_49 dX4_markStanding_63 (by first | decide | assumption) (by first | assumption | exact x_up_s | (refine (x_up_n (by first | decide | assumption)).trans ?_; first | assumption | exact x_up_s | (refine (x_up_n (by first | decide | assumption)).trans ?_; first | assumption | exact x_up_s | (refine (x_up_n (by first | decide | assumption)).trans ?_; first | assumption | exact x_up_s | (refine (x_up_n (by first | decide | assumption)).trans ?_; first | assumption | exact x_up_s | (refine (x_up_n (by first | decide | assumption)).trans ?_; first | assumption | exact x_up_s | (refine (x_up_n (by first | decide | assumption)).trans ?_; first | assumption | exact x_up_s | (refine (x_up_n (by first | decide | assumption)).trans ?_; first | assumption | exact x_up_s)))))))) rfl ?_
        refine x_iload_n (i := 1) dX4_markStanding_66 rfl rfl ?_
        refine x_aload_n (i := 0) dX4_markStanding_67 rfl rfl ?_
        refine x_get flX4_34 dX4_markStanding_68 (by first | decide | assumption) (by first | assumption | exact x_up_s | (refine (x_up_n (by first | decide | assumption)).trans ?_; first | assumption | exact x_up_s | (refine (x_up_n (by first | decide | assumption)).trans ?_; first | assumption | exact x_up_s | (refine (x_up_n (by first | decide | assumption)).trans ?_; first | assumption | exact x_up_s | (refine (x_up_n (by first | decide | assumption)).trans ?_; first | assumption | exact x_up_s | (refine (x_up_n (by first | decide | assumption)).trans ?_; first | assumption | exact x_up_s | (refine (x_up_n (by first | decide | assumption)).trans ?_; first | assumption | exact x_up_s | (refine (x_up_n (by first | decide | assumption)).trans ?_; first | assumption | exact x_up_s)))))))) rfl ?_
        refine x_invV clX4_142 dX4_markStanding_71 (cB_writtenEvents d 9 (by decide) _ x_up_s hb2) (by omega) rfl (by first | decide | assumption) (by first | assumption | exact x_up_s | (refine (x_up_n (by first | decide | assumption)).trans ?_; first | assumption | exact x_up_s | (refine (x_up_n (by first | decide | assumption)).trans ?_; first | assumption | exact x_up_s | (refine (x_up_n (by first | decide | assumption)).trans ?_; first | assumption | exact x_up_s | (refine (x_up_n (by first | decide | assumption)).trans ?_; first | assumption | exact x_up_s | (refine (x_up_n (by first | decide | assumption)).trans ?_; first | assumption | exact x_up_s | (refine (x_up_n (by first | decide | assumption)).trans ?_; first | assumption | exact x_up_s | (refine (x_up_n (by first | decide | assumption)).trans ?_; first | assumption | exact x_up_s)))))))) rfl (Nat.le_of_ble_eq_true rfl) ?_
        rintro r h' ⟨rfl, rfl⟩
        refine x_last k dX4_markStanding_74 (by first | decide | assumption) (by first | assumption | exact x_up_s | (refine (x_up_n (by first | decide | assumption)).trans ?_; first | assumption | exact x_up_s | (refine (x_up_n (by first | decide | assumption)).trans ?_; first | assumption | exact x_up_s | (refine (x_up_n (by first | decide | assumption)).trans ?_; first | assumption | exact x_up_s | (refine (x_up_n (by first | decide | assumption)).trans ?_; first | assumption | exact x_up_s | (refine (x_up_n (by first | decide | assumption)).trans ?_; first | assumption | exact x_up_s | (refine (x_up_n (by first | decide | assumption)).trans ?_; first | assumption | exact x_up_s | (refine (x_up_n (by first | decide | assumption)).trans ?_; first | assumption | exact x_up_s)))))))) rfl hk6 (by decide) ?_
        refine x_hp (h' := x_up (x_up h 21 (x_la 12 (vp_updL g k (lN (wev b2))))) 9 (x_bd L w b2)) (by rw [x_up_cm (by decide), x_up_up]) ?_
        first | refine x_incN dX4_markStanding_75 rfl (by decide) ?_ | refine x_iinc dX4_markStanding_75 rfl rfl (by decide) ?_
        first | refine x_incN dX4_markStanding_78 rfl (by decide) ?_ | refine x_iinc dX4_markStanding_78 rfl rfl (by decide) ?_
        refine x_goto 25 dX4_markStanding_81 (by decide) ?_
        exact x_wk (ih (i + 1) (k + 1) _ _ (by omega) (by omega) hb2 hq) ⟨rfl, rfl, rfl, trivial⟩
set_option maxRecDepth 100000 in
set_option maxHeartbeats 4000000 in
theorem cX_mark (d : Nat) (h : x_H) {n : Nat} {cs : Nat → Nat} (hX : h 0 = x_x) (hD : h 1 = x_dy n) (hG : h 2 = x_sg cs) (hok : okD n cs) {L w q : Nat} (hS : h 3 = x_st L w q) (hL1 : 1 ≤ L) (hL9 : L ≤ 9) (hw : w ≤ 2) {i1 i2 : Int32} {l1 l2 l3 l4 : Int64} (hB : h 9 = x_bd0 i1 i2 l1 l2 l3 l4) {g : Nat → Int64} (hP : h 21 = x_la 12 g) : x_Ct (d + 4) mX4_markStanding [.ref 0] h (fun r h' => r = none ∧ h' = x_up (x_up h 21 (x_la 12 (mkA w L cs n 0 0 [] g).2)) 9 (x_bd L w (mkA w L cs n 0 0 [] g).1)) := by
  refine x_enter pnX4_markStanding (Nat.le_of_ble_eq_true rfl) ?_
  refine x_iconst (v := 0) dX4_markStanding_0 (by decide) ?_
  refine x_istore_n (i := 1) dX4_markStanding_1 rfl (by decide) ?_
  refine x_aload_n (i := 0) dX4_markStanding_2 rfl rfl ?_
  refine x_get flX4_34 dX4_markStanding_3 (by first | decide | assumption) (by first | assumption | exact x_up_s | (refine (x_up_n (by first | decide | assumption)).trans ?_; first | assumption | exact x_up_s | (refine (x_up_n (by first | decide | assumption)).trans ?_; first | assumption | exact x_up_s | (refine (x_up_n (by first | decide | assumption)).trans ?_; first | assumption | exact x_up_s | (refine (x_up_n (by first | decide | assumption)).trans ?_; first | assumption | exact x_up_s | (refine (x_up_n (by first | decide | assumption)).trans ?_; first | assumption | exact x_up_s | (refine (x_up_n (by first | decide | assumption)).trans ?_; first | assumption | exact x_up_s | (refine (x_up_n (by first | decide | assumption)).trans ?_; first | assumption | exact x_up_s)))))))) rfl ?_
  refine x_aload_n (i := 0) dX4_markStanding_6 rfl rfl ?_
  refine x_get flX4_19 dX4_markStanding_7 (by first | decide | assumption) (by first | assumption | exact x_up_s | (refine (x_up_n (by first | decide | assumption)).trans ?_; first | assumption | exact x_up_s | (refine (x_up_n (by first | decide | assumption)).trans ?_; first | assumption | exact x_up_s | (refine (x_up_n (by first | decide | assumption)).trans ?_; first | assumption | exact x_up_s | (refine (x_up_n (by first | decide | assumption)).trans ?_; first | assumption | exact x_up_s | (refine (x_up_n (by first | decide | assumption)).trans ?_; first | assumption | exact x_up_s | (refine (x_up_n (by first | decide | assumption)).trans ?_; first | assumption | exact x_up_s | (refine (x_up_n (by first | decide | assumption)).trans ?_; first | assumption | exact x_up_s)))))))) rfl ?_
  refine x_get flX4_57 dX4_markStanding_10 (by first | decide | assumption) (by first | assumption | exact x_up_s | (refine (x_up_n (by first | decide | assumption)).trans ?_; first | assumption | exact x_up_s | (refine (x_up_n (by first | decide | assumption)).trans ?_; first | assumption | exact x_up_s | (refine (x_up_n (by first | decide | assumption)).trans ?_; first | assumption | exact x_up_s | (refine (x_up_n (by first | decide | assumption)).trans ?_; first | assumption | exact x_up_s | (refine (x_up_n (by first | decide | assumption)).trans ?_; first | assumption | exact x_up_s | (refine (x_up_n (by first | decide | assumption)).trans ?_; first | assumption | exact x_up_s | (refine (x_up_n (by first | decide | assumption)).trans ?_; first | assumption | exact x_up_s)))))))) rfl ?_
  refine x_aload_n (i := 0) dX4_markStanding_13 rfl rfl ?_
  refine x_get flX4_19 dX4_markStanding_14 (by first | decide | assumption) (by first | assumption | exact x_up_s | (refine (x_up_n (by first | decide | assumption)).trans ?_; first | assumption | exact x_up_s | (refine (x_up_n (by first | decide | assumption)).trans ?_; first | assumption | exact x_up_s | (refine (x_up_n (by first | decide | assumption)).trans ?_; first | assumption | exact x_up_s | (refine (x_up_n (by first | decide | assumption)).trans ?_; first | assumption | exact x_up_s | (refine (x_up_n (by first | decide | assumption)).trans ?_; first | assumption | exact x_up_s | (refine (x_up_n (by first | decide | assumption)).trans ?_; first | assumption | exact x_up_s | (refine (x_up_n (by first | decide | assumption)).trans ?_; first | assumption | exact x_up_s)))))))) rfl ?_
  refine x_get flX4_65 dX4_markStanding_17 (by first | decide | assumption) (by first | assumption | exact x_up_s | (refine (x_up_n (by first | decide | assumption)).trans ?_; first | assumption | exact x_up_s | (refine (x_up_n (by first | decide | assumption)).trans ?_; first | assumption | exact x_up_s | (refine (x_up_n (by first | decide | assumption)).trans ?_; first | assumption | exact x_up_s | (refine (x_up_n (by first | decide | assumption)).trans ?_; first | assumption | exact x_up_s | (refine (x_up_n (by first | decide | assumption)).trans ?_; first | assumption | exact x_up_s | (refine (x_up_n (by first | decide | assumption)).trans ?_; first | assumption | exact x_up_s | (refine (x_up_n (by first | decide | assumption)).trans ?_; first | assumption | exact x_up_s)))))))) rfl ?_
  refine x_invV clX4_93 dX4_markStanding_20 (cB_begin d 9 (by decide) h hB L w hL9) (by omega) rfl (by first | decide | assumption) (by first | assumption | exact x_up_s | (refine (x_up_n (by first | decide | assumption)).trans ?_; first | assumption | exact x_up_s | (refine (x_up_n (by first | decide | assumption)).trans ?_; first | assumption | exact x_up_s | (refine (x_up_n (by first | decide | assumption)).trans ?_; first | assumption | exact x_up_s | (refine (x_up_n (by first | decide | assumption)).trans ?_; first | assumption | exact x_up_s | (refine (x_up_n (by first | decide | assumption)).trans ?_; first | assumption | exact x_up_s | (refine (x_up_n (by first | decide | assumption)).trans ?_; first | assumption | exact x_up_s | (refine (x_up_n (by first | decide | assumption)).trans ?_; first | assumption | exact x_up_s)))))))) rfl (Nat.le_of_ble_eq_true rfl) ?_
  rintro r h' ⟨rfl, rfl⟩
  refine x_iconst (v := 0) dX4_markStanding_23 (by decide) ?_
  refine x_istore_n (i := 2) dX4_markStanding_24 rfl (by decide) ?_
  refine x_hp (h' := x_up (x_up h 21 (x_la 12 g)) 9 (x_bd L w [])) (by rw [x_up_eta hP]) ?_
  exact x_wk (cX_mark_loop d h hX hD hG hok hL1 hL9 hw _ n 0 0 [] g (by omega) (by omega) (okB_nil hL1 hL9) ⟨rfl, rfl⟩) ⟨rfl, rfl, rfl, trivial⟩
def rbA (g : Nat → Int64) (bits : Nat) : Nat → Nat → Int64 → Int64
  | 0, _, a => a
  | f + 1, k, a => rbA g bits f (k + 1) (if bits.testBit k then a ||| g k else a)
set_option maxRecDepth 100000 in
set_option maxHeartbeats 4000000 in
theorem cX_rb_loop (d : Nat) (h : x_H) (hX : h 0 = x_x) {g : Nat → Int64} (hP : h 21 = x_la 12 g) (bits c : Nat) (hbits : bits < 2 ^ 31) (hc : c ≤ 12) (Q : Option Value → x_H → Prop) :
    ∀ (f k : Nat) (a : Int64), k + f = c → Q (some (.long (rbA g bits f k a))) h → x_V d mX4_readBehind 5 (x_ls [some (.ref 0), some (.int (nI bits)), some (.int (nI c)), some (.long a), none, some (.int (nI k))]) [] h Q := by
  intro f
  induction f with
  | zero =>
    intro k a hk hq
    refine x_iload dX4_readBehind_5 rfl ?_
    refine x_iload_n (i := 2) dX4_readBehind_7 rfl rfl ?_
    refine x_icmp_ge 47 dX4_readBehind_8 (by decide) (fun _ => ?_) (fun hc => absurd (nI_le (by omega) (by omega)) hc)
    refine x_lload_n (i := 3) dX4_readBehind_47 rfl rfl ?_
    refine x_lret dX4_readBehind_48 rfl hq
  | succ f ih =>
    intro k a hk hq
    unfold rbA at hq
    refine x_iload dX4_readBehind_5 rfl ?_
    refine x_iload_n (i := 2) dX4_readBehind_7 rfl rfl ?_
    refine x_icmp_ge 47 dX4_readBehind_8 (by decide) (fun hc => absurd hc (nI_ge (by omega) (by omega))) (fun _ => ?_)
    refine x_iload dX4_readBehind_11 rfl ?_
    refine x_aload_n (i := 0) dX4_readBehind_13 rfl rfl ?_
    refine x_get flX4_49 dX4_readBehind_14 (by first | decide | assumption) (by first | assumption | exact x_up_s | (refine (x_up_n (by first | decide | assumption)).trans ?_; first | assumption | exact x_up_s | (refine (x_up_n (by first | decide | assumption)).trans ?_; first | assumption | exact x_up_s | (refine (x_up_n (by first | decide | assumption)).trans ?_; first | assumption | exact x_up_s | (refine (x_up_n (by first | decide | assumption)).trans ?_; first | assumption | exact x_up_s | (refine (x_up_n (by first | decide | assumption)).trans ?_; first | assumption | exact x_up_s | (refine (x_up_n (by first | decide | assumption)).trans ?_; first | assumption | exact x_up_s | (refine (x_up_n (by first | decide | assumption)).trans ?_; first | assumption | exact x_up_s)))))))) rfl ?_
    refine x_alen dX4_readBehind_17 (by first | decide | assumption) (by first | assumption | exact x_up_s | (refine (x_up_n (by first | decide | assumption)).trans ?_; first | assumption | exact x_up_s | (refine (x_up_n (by first | decide | assumption)).trans ?_; first | assumption | exact x_up_s | (refine (x_up_n (by first | decide | assumption)).trans ?_; first | assumption | exact x_up_s | (refine (x_up_n (by first | decide | assumption)).trans ?_; first | assumption | exact x_up_s | (refine (x_up_n (by first | decide | assumption)).trans ?_; first | assumption | exact x_up_s | (refine (x_up_n (by first | decide | assumption)).trans ?_; first | assumption | exact x_up_s | (refine (x_up_n (by first | decide | assumption)).trans ?_; first | assumption | exact x_up_s)))))))) (by decide) ?_
    refine x_icmp_ge 47 dX4_readBehind_18 (by decide) (fun hc => absurd hc (nI_ge (by omega) (by omega))) (fun _ => ?_)
    refine x_iload_n (i := 1) dX4_readBehind_21 rfl rfl ?_
    refine x_iload dX4_readBehind_22 rfl ?_
    refine x_iushr dX4_readBehind_24 ?_
    refine x_iconst (v := 1) dX4_readBehind_25 (by decide) ?_
    refine x_iand dX4_readBehind_26 ?_
    refine x_topi (n_bit hbits (by omega)) ?_
    refine x_iconst (v := 1) dX4_readBehind_27 (by decide) ?_
    cases hb : bits.testBit k with
    | false =>
      rw [hb] at hq
      simp only [Bool.false_eq_true, if_false] at hq
      refine x_icmp_ne 41 dX4_readBehind_28 (by decide) (fun _ => ?_) (fun hc => absurd hc (by decide))
      first | refine x_incN dX4_readBehind_41 rfl (by decide) ?_ | refine x_iinc dX4_readBehind_41 rfl rfl (by decide) ?_
      refine x_goto 5 dX4_readBehind_44 (by decide) ?_
      exact x_wk (ih (k + 1) a (by omega) hq) ⟨rfl, rfl, rfl, rfl, rfl, trivial⟩
    | true =>
      rw [hb] at hq
      simp only [if_true] at hq
      refine x_icmp_ne 41 dX4_readBehind_28 (by decide) (fun hc => absurd (rfl) hc) (fun _ => ?_)
      refine x_lload_n (i := 3) dX4_readBehind_31 rfl rfl ?_
      refine x_aload_n (i := 0) dX4_readBehind_32 rfl rfl ?_
      refine x_get flX4_49 dX4_readBehind_33 (by first | decide | assumption) (by first | assumption | exact x_up_s | (refine (x_up_n (by first | decide | assumption)).trans ?_; first | assumption | exact x_up_s | (refine (x_up_n (by first | decide | assumption)).trans ?_; first | assumption | exact x_up_s | (refine (x_up_n (by first | decide | assumption)).trans ?_; first | assumption | exact x_up_s | (refine (x_up_n (by first | decide | assumption)).trans ?_; first | assumption | exact x_up_s | (refine (x_up_n (by first | decide | assumption)).trans ?_; first | assumption | exact x_up_s | (refine (x_up_n (by first | decide | assumption)).trans ?_; first | assumption | exact x_up_s | (refine (x_up_n (by first | decide | assumption)).trans ?_; first | assumption | exact x_up_s)))))))) rfl ?_
      refine x_iload dX4_readBehind_36 rfl ?_
      refine x_lald k dX4_readBehind_38 (by first | decide | assumption) (by first | assumption | exact x_up_s | (refine (x_up_n (by first | decide | assumption)).trans ?_; first | assumption | exact x_up_s | (refine (x_up_n (by first | decide | assumption)).trans ?_; first | assumption | exact x_up_s | (refine (x_up_n (by first | decide | assumption)).trans ?_; first | assumption | exact x_up_s | (refine (x_up_n (by first | decide | assumption)).trans ?_; first | assumption | exact x_up_s | (refine (x_up_n (by first | decide | assumption)).trans ?_; first | assumption | exact x_up_s | (refine (x_up_n (by first | decide | assumption)).trans ?_; first | assumption | exact x_up_s | (refine (x_up_n (by first | decide | assumption)).trans ?_; first | assumption | exact x_up_s)))))))) rfl (by omega) (by decide) ?_
      refine x_lor dX4_readBehind_39 ?_
      refine x_lstore_n (i := 3) dX4_readBehind_40 rfl (by decide) ?_
      first | refine x_incN dX4_readBehind_41 rfl (by decide) ?_ | refine x_iinc dX4_readBehind_41 rfl rfl (by decide) ?_
      refine x_goto 5 dX4_readBehind_44 (by decide) ?_
      exact x_wk (ih (k + 1) _ (by omega) hq) ⟨rfl, rfl, rfl, rfl, rfl, trivial⟩
set_option maxRecDepth 100000 in
set_option maxHeartbeats 4000000 in
theorem cX_rb (d : Nat) (h : x_H) (hX : h 0 = x_x) {g : Nat → Int64} (hP : h 21 = x_la 12 g) (bits c : Nat) (hbits : bits < 2 ^ 31) (hc : c ≤ 12) : x_Ct d mX4_readBehind [.ref 0, .int (nI bits), .int (nI c)] h (fun r h' => r = some (.long (rbA g bits c 0 0)) ∧ h' = h) := by
  refine x_enter pnX4_readBehind (Nat.le_of_ble_eq_true rfl) ?_
  refine x_lconst (v := 0) dX4_readBehind_0 (by decide) ?_
  refine x_lstore_n (i := 3) dX4_readBehind_1 rfl (by decide) ?_
  refine x_iconst (v := 0) dX4_readBehind_2 (by decide) ?_
  refine x_istore dX4_readBehind_3 (by decide) ?_
  exact x_wk (cX_rb_loop d h hX hP bits c hbits hc _ c 0 0 (by omega) ⟨rfl, rfl⟩) ⟨rfl, rfl, rfl, rfl, rfl, trivial⟩
/-- nothing stays unread -/
def flOk (g : Nat → Int64) (m c bits : Nat) : Bool := decide (lN m &&& (rbA g bits c 0 0 ^^^ (-1)) = 0)
def flA (ok : Nat → Bool) : Nat → Nat → Nat → Nat
  | 0, _, best => best
  | f + 1, bits, best => flA ok f (bits + 1) (if pop bits < pop best ∧ ok bits = true then bits else best)
theorem flA_lt (ok : Nat → Bool) {T : Nat} : ∀ (f bits best : Nat), bits + f ≤ T → best ≤ T → flA ok f bits best ≤ T
  | 0, _, _, _, h => h
  | f + 1, bits, best, h1, h2 => by
    unfold flA
    refine flA_lt ok f _ _ (by omega) ?_
    split <;> omega
theorem pop_le16 {x : Nat} (hx : x < 2 ^ 16) : pop x ≤ 16 := by
  obtain ⟨s, -, -, -, h⟩ := pop_sum2 hx
  exact h
set_option maxRecDepth 100000 in
set_option maxHeartbeats 4000000 in
theorem cX_fl_loop (d : Nat) (h : x_H) (hX : h 0 = x_x) {g : Nat → Int64} (hP : h 21 = x_la 12 g) (m c : Nat) (hc : c ≤ 12) (Q : Option Value → x_H → Prop) :
    ∀ (f bits best : Nat), bits + f = 2 ^ c - 1 → best ≤ 2 ^ c - 1 → Q (some (.int (nI (flA (flOk g m c) f bits best)))) h → x_V (d + 1) mX4_fewestLooks 35 (x_ls [some (.ref 0), some (.long (lN m)), none, some (.int (nI c)), some (.int (nI (2 ^ c - 1))), some (.int (nI best)), some (.int (nI bits))]) [] h Q := by
  have h12 : 2 ^ c ≤ 2 ^ 12 := Nat.pow_le_pow_right (by decide) hc
  intro f
  induction f with
  | zero =>
    intro bits best hb hbest hq
    refine x_iload dX4_fewestLooks_35 rfl ?_
    refine x_iload dX4_fewestLooks_37 rfl ?_
    refine x_icmp_ge 95 dX4_fewestLooks_39 (by decide) (fun _ => ?_) (fun hc => absurd (nI_le (by omega) (by omega)) hc)
    refine x_iload dX4_fewestLooks_95 rfl ?_
    refine x_iret dX4_fewestLooks_97 rfl hq
  | succ f ih =>
    intro bits best hb hbest hq
    unfold flA at hq
    have p1 := pop_le16 (x := bits) (by omega)
    have p2 := pop_le16 (x := best) (by omega)
    -- from 89 on
    have next : ∀ (best2 : Nat) (j7 : Value), best2 ≤ 2 ^ c - 1 → Q (some (.int (nI (flA (flOk g m c) f (bits + 1) best2)))) h → x_V (d + 1) mX4_fewestLooks 89 (x_ls [some (.ref 0), some (.long (lN m)), none, some (.int (nI c)), some (.int (nI (2 ^ c - 1))), some (.int (nI best2)), some (.int (nI bits))]) [] h Q := by
      intro best2 j7 hb2 hq2
      first | refine x_incN dX4_fewestLooks_89 rfl (by decide) ?_ | refine x_iinc dX4_fewestLooks_89 rfl rfl (by decide) ?_
      refine x_goto 35 dX4_fewestLooks_92 (by decide) ?_
      exact x_wk (ih (bits + 1) best2 (by omega) hb2 hq2) ⟨rfl, rfl, rfl, rfl, rfl, rfl, trivial⟩
    refine x_iload dX4_fewestLooks_35 rfl ?_
    refine x_iload dX4_fewestLooks_37 rfl ?_
    refine x_icmp_ge 95 dX4_fewestLooks_39 (by decide) (fun hc => absurd hc (nI_ge (by omega) (by omega))) (fun _ => ?_)
    refine x_iload dX4_fewestLooks_42 rfl ?_
    refine x_invS clX4_135 dX4_fewestLooks_44 (cJ_bitCountI d h bits (by omega)) (by omega) rfl rfl (Nat.le_of_ble_eq_true rfl) ?_
    rintro r h' ⟨rfl, rfl⟩
    refine x_iload dX4_fewestLooks_47 rfl ?_
    refine x_invS clX4_135 dX4_fewestLooks_49 (cJ_bitCountI d h' best (by omega)) (by omega) rfl rfl (Nat.le_of_ble_eq_true rfl) ?_
    rintro r h'' ⟨rfl, rfl⟩
    refine x_icmp_ge 59 dX4_fewestLooks_52 (by decide) (fun hge => ?_) (fun hge => ?_)
    · have : ¬ pop bits < pop best := by have := (nI_leI (by omega) (by omega)).mp hge; omega
      rw [if_neg (fun q => this q.1)] at hq
      refine x_iconst (v := 0) dX4_fewestLooks_59 (by decide) ?_
      refine x_istore dX4_fewestLooks_60 (by decide) ?_
      refine x_iload dX4_fewestLooks_62 rfl ?_
      refine x_if_eq 89 dX4_fewestLooks_64 (by decide) (fun _ => ?_) (fun hc => absurd (rfl) hc)
      exact x_wk (next best .null hbest hq) ⟨rfl, rfl, rfl, rfl, rfl, rfl, trivial⟩
    · have hlt : pop bits < pop best := by
        rcases Nat.lt_or_ge (pop bits) (pop best) with q | q
        · exact q
        · exact absurd (nI_le q (by omega)) hge
      refine x_iconst (v := 1) dX4_fewestLooks_55 (by decide) ?_
      refine x_goto 60 dX4_fewestLooks_56 (by decide) ?_
      refine x_istore dX4_fewestLooks_60 (by decide) ?_
      refine x_iload dX4_fewestLooks_62 rfl ?_
      refine x_if_eq 89 dX4_fewestLooks_64 (by decide) (fun hc => absurd hc (by decide)) (fun _ => ?_)
      refine x_lload_n (i := 1) dX4_fewestLooks_67 rfl rfl ?_
      refine x_aload_n (i := 0) dX4_fewestLooks_68 rfl rfl ?_
      refine x_iload dX4_fewestLooks_69 rfl ?_
      refine x_iload_n (i := 3) dX4_fewestLooks_71 rfl rfl ?_
      refine x_invV clX4_207 dX4_fewestLooks_72 (cX_rb d h'' hX hP bits c (by omega) hc) (by omega) rfl (by first | decide | assumption) (by first | assumption | exact x_up_s | (refine (x_up_n (by first | decide | assumption)).trans ?_; first | assumption | exact x_up_s | (refine (x_up_n (by first | decide | assumption)).trans ?_; first | assumption | exact x_up_s | (refine (x_up_n (by first | decide | assumption)).trans ?_; first | assumption | exact x_up_s | (refine (x_up_n (by first | decide | assumption)).trans ?_; first | assumption | exact x_up_s | (refine (x_up_n (by first | decide | assumption)).trans ?_; first | assumption | exact x_up_s | (refine (x_up_n (by first | decide | assumption)).trans ?_; first | assumption | exact x_up_s | (refine (x_up_n (by first | decide | assumption)).trans ?_; first | assumption | exact x_up_s)))))))) rfl (Nat.le_of_ble_eq_true rfl) ?_
      rintro r h3 ⟨rfl, rfl⟩
      refine x_ldc2 cnX4_146 dX4_fewestLooks_75 ?_
      refine x_lxor dX4_fewestLooks_78 ?_
      refine x_land dX4_fewestLooks_79 ?_
      refine x_lconst (v := 0) dX4_fewestLooks_80 (by decide) ?_
      refine x_lcmp dX4_fewestLooks_81 ?_
      refine x_if_ne 89 dX4_fewestLooks_82 (by decide) (fun hz => ?_) (fun hz => ?_)
      · have hno : ¬ flOk g m c bits = true := by
          intro q
          exact hz ((lg_cmp0 _ _).mpr (of_decide_eq_true q))
        rw [if_neg (fun q => hno q.2)] at hq
        exact x_wk (next best .null hbest hq) ⟨rfl, rfl, rfl, rfl, rfl, rfl, trivial⟩
      · have hyes : flOk g m c bits = true := decide_eq_true ((lg_cmp0 _ _).mp hz)
        rw [if_pos ⟨hlt, hyes⟩] at hq
        refine x_iload dX4_fewestLooks_85 rfl ?_
        refine x_istore dX4_fewestLooks_87 (by decide) ?_
        exact x_wk (next bits .null (by omega) hq) ⟨rfl, rfl, rfl, rfl, rfl, rfl, trivial⟩
theorem every_c : ∀ c, c ≤ 12 → (1 : Int32) <<< (nI c &&& 31) - 1 = nI (2 ^ c - 1) := by decide
def flR (g : Nat → Int64) (m c : Nat) : Option Nat := if flOk g m c (2 ^ c - 1) = true then some (flA (flOk g m c) (2 ^ c - 1) 0 (2 ^ c - 1)) else none
set_option maxRecDepth 100000 in
set_option maxHeartbeats 4000000 in
theorem cX_fl (d : Nat) (h : x_H) (hX : h 0 = x_x) {g : Nat → Int64} (hP : h 21 = x_la 12 g) (m c : Nat) (hc : c ≤ 12) : x_Ct (d + 1) mX4_fewestLooks [.ref 0, .long (lN m), .int (nI c)] h (fun r h' => r = some (.int (fI (flR g m c))) ∧ h' = h) := by
  have h12 : 2 ^ c ≤ 2 ^ 12 := Nat.pow_le_pow_right (by decide) hc
  refine x_enter pnX4_fewestLooks (Nat.le_of_ble_eq_true rfl) ?_
  refine x_iconst (v := 1) dX4_fewestLooks_0 (by decide) ?_
  refine x_iload_n (i := 3) dX4_fewestLooks_1 rfl rfl ?_
  refine x_ishl dX4_fewestLooks_2 ?_
  refine x_iconst (v := 1) dX4_fewestLooks_3 (by decide) ?_
  refine x_isub dX4_fewestLooks_4 ?_
  refine x_topi (every_c c hc) ?_
  refine x_istore dX4_fewestLooks_5 (by decide) ?_
  refine x_lload_n (i := 1) dX4_fewestLooks_7 rfl rfl ?_
  refine x_aload_n (i := 0) dX4_fewestLooks_8 rfl rfl ?_
  refine x_iload dX4_fewestLooks_9 rfl ?_
  refine x_iload_n (i := 3) dX4_fewestLooks_11 rfl rfl ?_
  refine x_invV clX4_207 dX4_fewestLooks_12 (cX_rb d h hX hP (2 ^ c - 1) c (by omega) hc) (by omega) rfl (by first | decide | assumption) (by first | assumption | exact x_up_s | (refine (x_up_n (by first | decide | assumption)).trans ?_; first | assumption | exact x_up_s | (refine (x_up_n (by first | decide | assumption)).trans ?_; first | assumption | exact x_up_s | (refine (x_up_n (by first | decide | assumption)).trans ?_; first | assumption | exact x_up_s | (refine (x_up_n (by first | decide | assumption)).trans ?_; first | assumption | exact x_up_s | (refine (x_up_n (by first | decide | assumption)).trans ?_; first | assumption | exact x_up_s | (refine (x_up_n (by first | decide | assumption)).trans ?_; first | assumption | exact x_up_s | (refine (x_up_n (by first | decide | assumption)).trans ?_; first | assumption | exact x_up_s)))))))) rfl (Nat.le_of_ble_eq_true rfl) ?_
  rintro r h3 ⟨rfl, rfl⟩
  refine x_ldc2 cnX4_146 dX4_fewestLooks_15 ?_
  refine x_lxor dX4_fewestLooks_18 ?_
  refine x_land dX4_fewestLooks_19 ?_
  refine x_lconst (v := 0) dX4_fewestLooks_20 (by decide) ?_
  refine x_lcmp dX4_fewestLooks_21 ?_
  refine x_if_eq 28 dX4_fewestLooks_22 (by decide) (fun hz => ?_) (fun hz => ?_)
  · have hyes : flOk g m c (2 ^ c - 1) = true := decide_eq_true ((lg_cmp0 _ _).mp hz)
    refine x_iload dX4_fewestLooks_28 rfl ?_
    refine x_istore dX4_fewestLooks_30 (by decide) ?_
    refine x_iconst (v := 0) dX4_fewestLooks_32 (by decide) ?_
    refine x_istore dX4_fewestLooks_33 (by decide) ?_
    refine x_wk (cX_fl_loop d h3 hX hP m c hc _ (2 ^ c - 1) 0 (2 ^ c - 1) (by omega) (by omega) ⟨?_, rfl⟩) ⟨rfl, rfl, rfl, rfl, rfl, rfl, trivial⟩
    rw [flR, if_pos hyes]; rfl
  · have hno : ¬ flOk g m c (2 ^ c - 1) = true := fun q => hz ((lg_cmp0 _ _).mpr (of_decide_eq_true q))
    refine x_bipush (v := (-6)) dX4_fewestLooks_25 (by decide) ?_
    refine x_iret dX4_fewestLooks_27 rfl ⟨by rw [flR, if_neg hno]; rfl, rfl⟩
