/-! the pad of the model: n signs, codes cs -/
set_option maxRecDepth 100000 in
set_option maxHeartbeats 4000000 in
theorem cM_fault_loop (d : Nat) (h : x_H) {sz ru si my pl lw ev bp bi nw ka iw : Int32} {n : Nat} {cs : Nat → Nat} (hM : h 30 = x_md sz ru si (nI n) my pl lw ev bp bi nw ka iw) (hG : h 34 = x_sg cs) (hok : okD n cs) (Q : Option Value → x_H → Prop) :
    ∀ (f i a : Nat), i + f = n → a ≤ 4 → Q (some (.int (fI (ffA cs f i a)))) h → x_V (d + 2) mX5_fault 4 (x_ls [some (.ref 30), some (.int (nI a)), some (.int (nI i))]) [] h Q := by
  have hn := hok.1
  intro f
  induction f with
  | zero =>
    intro i a hi ha hq
    refine x_iload_n (i := 2) dX5_fault_4 rfl rfl ?_
    refine x_aload_n (i := 0) dX5_fault_5 rfl rfl ?_
    refine x_get flX5_68 dX5_fault_6 (by first | decide | assumption) (by first | assumption | exact x_up_s | (refine (x_up_n (by first | decide | assumption)).trans ?_; first | assumption | exact x_up_s | (refine (x_up_n (by first | decide | assumption)).trans ?_; first | assumption | exact x_up_s | (refine (x_up_n (by first | decide | assumption)).trans ?_; first | assumption | exact x_up_s | (refine (x_up_n (by first | decide | assumption)).trans ?_; first | assumption | exact x_up_s | (refine (x_up_n (by first | decide | assumption)).trans ?_; first | assumption | exact x_up_s | (refine (x_up_n (by first | decide | assumption)).trans ?_; first | assumption | exact x_up_s | (refine (x_up_n (by first | decide | assumption)).trans ?_; first | assumption | exact x_up_s | (refine (x_up_n (by first | decide | assumption)).trans ?_; first | assumption | exact x_up_s | (refine (x_up_n (by first | decide | assumption)).trans ?_; first | assumption | exact x_up_s | (refine (x_up_n (by first | decide | assumption)).trans ?_; first | assumption | exact x_up_s | (refine (x_up_n (by first | decide | assumption)).trans ?_; first | assumption | exact x_up_s | (refine (x_up_n (by first | decide | assumption)).trans ?_; first | assumption | exact x_up_s | (refine (x_up_n (by first | decide | assumption)).trans ?_; first | assumption | exact x_up_s)))))))))))))) rfl ?_
    refine x_icmp_ge 68 dX5_fault_9 (by decide) (fun _ => ?_) (fun hc => absurd (nI_le (by omega) (by omega)) hc)
    refine x_bipush (v := (-6)) dX5_fault_68 (by decide) ?_
    refine x_iret dX5_fault_70 rfl hq
  | succ f ih =>
    intro i a hi ha hq
    have hci := hok.2 i
    unfold ffA at hq
    -- from 62 on
    have next : ∀ a2 : Nat, a2 ≤ 4 → Q (some (.int (fI (ffA cs f (i + 1) a2)))) h → x_V (d + 2) mX5_fault 62 (x_ls [some (.ref 30), some (.int (nI a2)), some (.int (nI i))]) [] h Q := by
      intro a2 ha2 hq2
      first | refine x_incN dX5_fault_62 rfl (by decide) ?_ | refine x_iinc dX5_fault_62 rfl rfl (by decide) ?_
      refine x_goto 4 dX5_fault_65 (by decide) ?_
      exact x_wk (ih (i + 1) a2 (by omega) ha2 hq2) ⟨rfl, rfl, rfl, trivial⟩
    -- from 31 on, with the marks a2
    have mid : ∀ a2 : Nat, a2 = (if cs i = 63 then a + 1 else a) → x_V (d + 2) mX5_fault 31 (x_ls [some (.ref 30), some (.int (nI a2)), some (.int (nI i))]) [] h Q := by
      intro a2 ha2
      have chk : (cs i = 63 ∨ (crN (cs i) ≠ none ∨ lkN (cs i) ≠ none)) → x_V (d + 2) mX5_fault 55 (x_ls [some (.ref 30), some (.int (nI a2)), some (.int (nI i))]) [] h Q := by
        intro hv
        refine x_iload_n (i := 1) dX5_fault_55 rfl rfl ?_
        refine x_iconst (v := 4) dX5_fault_56 (by decide) ?_
        by_cases h63 : cs i = 63
        · rw [if_pos h63] at ha2 hq
          by_cases h4 : 4 < a + 1
          · rw [if_pos h4] at hq
            refine x_icmp_le 62 dX5_fault_57 (by decide) (fun hc => absurd hc (fun q => absurd ((nI_leI (b := 4) (by omega) (by decide)).mp q) (by omega))) (fun _ => ?_)
            refine x_iload_n (i := 2) dX5_fault_60 rfl rfl ?_
            refine x_iret dX5_fault_61 rfl hq
          · rw [if_neg h4] at hq
            refine x_icmp_le 62 dX5_fault_57 (by decide) (fun _ => ?_) (fun hc => absurd (nI_le (b := 4) (by omega) (by decide)) hc)
            exact x_wk (next a2 (by omega) (by rw [ha2]; exact hq)) ⟨rfl, rfl, rfl, trivial⟩
        · rw [if_neg h63] at ha2 hq
          rw [if_neg (fun q => (hv.resolve_left h63).elim (fun z => z q.1) (fun z => z q.2))] at hq
          refine x_icmp_le 62 dX5_fault_57 (by decide) (fun _ => ?_) (fun hc => absurd (nI_le (b := 4) (by omega) (by decide)) hc)
          exact x_wk (next a2 (by omega) (by rw [ha2]; exact hq)) ⟨rfl, rfl, rfl, trivial⟩
      have hcr : crN (cs i) ≠ none ↔ (65 ≤ cs i ∧ cs i < 73) := by
        unfold crN
        by_cases z : 65 ≤ cs i ∧ cs i < 73
        · rw [if_pos z]; simp [z]
        · rw [if_neg z]; simp [z]
      have hlk : lkN (cs i) ≠ none ↔ (97 ≤ cs i ∧ cs i < 105) := by
        unfold lkN
        by_cases z : 97 ≤ cs i ∧ cs i < 105
        · rw [if_pos z]; simp [z]
        · rw [if_neg z]; simp [z]
      refine x_aload_n (i := 0) dX5_fault_31 rfl rfl ?_
      refine x_get flX5_19 dX5_fault_32 (by first | decide | assumption) (by first | assumption | exact x_up_s | (refine (x_up_n (by first | decide | assumption)).trans ?_; first | assumption | exact x_up_s | (refine (x_up_n (by first | decide | assumption)).trans ?_; first | assumption | exact x_up_s | (refine (x_up_n (by first | decide | assumption)).trans ?_; first | assumption | exact x_up_s | (refine (x_up_n (by first | decide | assumption)).trans ?_; first | assumption | exact x_up_s | (refine (x_up_n (by first | decide | assumption)).trans ?_; first | assumption | exact x_up_s | (refine (x_up_n (by first | decide | assumption)).trans ?_; first | assumption | exact x_up_s | (refine (x_up_n (by first | decide | assumption)).trans ?_; first | assumption | exact x_up_s | (refine (x_up_n (by first | decide | assumption)).trans ?_; first | assumption | exact x_up_s | (refine (x_up_n (by first | decide | assumption)).trans ?_; first | assumption | exact x_up_s | (refine (x_up_n (by first | decide | assumption)).trans ?_; first | assumption | exact x_up_s | (refine (x_up_n (by first | decide | assumption)).trans ?_; first | assumption | exact x_up_s | (refine (x_up_n (by first | decide | assumption)).trans ?_; first | assumption | exact x_up_s | (refine (x_up_n (by first | decide | assumption)).trans ?_; first | assumption | exact x_up_s)))))))))))))) rfl ?_
      refine x_iload_n (i := 2) dX5_fault_35 rfl rfl ?_
      refine x_iald i dX5_fault_36 (by first | decide | assumption) (by first | assumption | exact x_up_s | (refine (x_up_n (by first | decide | assumption)).trans ?_; first | assumption | exact x_up_s | (refine (x_up_n (by first | decide | assumption)).trans ?_; first | assumption | exact x_up_s | (refine (x_up_n (by first | decide | assumption)).trans ?_; first | assumption | exact x_up_s | (refine (x_up_n (by first | decide | assumption)).trans ?_; first | assumption | exact x_up_s | (refine (x_up_n (by first | decide | assumption)).trans ?_; first | assumption | exact x_up_s | (refine (x_up_n (by first | decide | assumption)).trans ?_; first | assumption | exact x_up_s | (refine (x_up_n (by first | decide | assumption)).trans ?_; first | assumption | exact x_up_s | (refine (x_up_n (by first | decide | assumption)).trans ?_; first | assumption | exact x_up_s | (refine (x_up_n (by first | decide | assumption)).trans ?_; first | assumption | exact x_up_s | (refine (x_up_n (by first | decide | assumption)).trans ?_; first | assumption | exact x_up_s | (refine (x_up_n (by first | decide | assumption)).trans ?_; first | assumption | exact x_up_s | (refine (x_up_n (by first | decide | assumption)).trans ?_; first | assumption | exact x_up_s | (refine (x_up_n (by first | decide | assumption)).trans ?_; first | assumption | exact x_up_s)))))))))))))) rfl (by omega) (by decide) ?_
      refine x_invS clX5_79 dX5_fault_37 (cM_isCrossing d h (cs i) hci) (by omega) rfl rfl (Nat.le_of_ble_eq_true rfl) ?_
      rintro r h' ⟨rfl, rfl⟩
      by_cases h1 : cs i = 63 ∨ (65 ≤ cs i ∧ cs i < 73)
      · rw [decide_eq_true h1]
        refine x_if_ne 55 dX5_fault_40 (by decide) (fun _ => ?_) (fun hc => absurd hc (by decide))
        exact x_wk (chk (h1.elim Or.inl (fun z => Or.inr (Or.inl (hcr.mpr z))))) ⟨rfl, rfl, rfl, trivial⟩
      · rw [decide_eq_false h1]
        refine x_if_ne 55 dX5_fault_40 (by decide) (fun hc => absurd (rfl) hc) (fun _ => ?_)
        refine x_aload_n (i := 0) dX5_fault_43 rfl rfl ?_
        refine x_get flX5_19 dX5_fault_44 (by first | decide | assumption) (by first | assumption | exact x_up_s | (refine (x_up_n (by first | decide | assumption)).trans ?_; first | assumption | exact x_up_s | (refine (x_up_n (by first | decide | assumption)).trans ?_; first | assumption | exact x_up_s | (refine (x_up_n (by first | decide | assumption)).trans ?_; first | assumption | exact x_up_s | (refine (x_up_n (by first | decide | assumption)).trans ?_; first | assumption | exact x_up_s | (refine (x_up_n (by first | decide | assumption)).trans ?_; first | assumption | exact x_up_s | (refine (x_up_n (by first | decide | assumption)).trans ?_; first | assumption | exact x_up_s | (refine (x_up_n (by first | decide | assumption)).trans ?_; first | assumption | exact x_up_s | (refine (x_up_n (by first | decide | assumption)).trans ?_; first | assumption | exact x_up_s | (refine (x_up_n (by first | decide | assumption)).trans ?_; first | assumption | exact x_up_s | (refine (x_up_n (by first | decide | assumption)).trans ?_; first | assumption | exact x_up_s | (refine (x_up_n (by first | decide | assumption)).trans ?_; first | assumption | exact x_up_s | (refine (x_up_n (by first | decide | assumption)).trans ?_; first | assumption | exact x_up_s | (refine (x_up_n (by first | decide | assumption)).trans ?_; first | assumption | exact x_up_s)))))))))))))) rfl ?_
        refine x_iload_n (i := 2) dX5_fault_47 rfl rfl ?_
        refine x_iald i dX5_fault_48 (by first | decide | assumption) (by first | assumption | exact x_up_s | (refine (x_up_n (by first | decide | assumption)).trans ?_; first | assumption | exact x_up_s | (refine (x_up_n (by first | decide | assumption)).trans ?_; first | assumption | exact x_up_s | (refine (x_up_n (by first | decide | assumption)).trans ?_; first | assumption | exact x_up_s | (refine (x_up_n (by first | decide | assumption)).trans ?_; first | assumption | exact x_up_s | (refine (x_up_n (by first | decide | assumption)).trans ?_; first | assumption | exact x_up_s | (refine (x_up_n (by first | decide | assumption)).trans ?_; first | assumption | exact x_up_s | (refine (x_up_n (by first | decide | assumption)).trans ?_; first | assumption | exact x_up_s | (refine (x_up_n (by first | decide | assumption)).trans ?_; first | assumption | exact x_up_s | (refine (x_up_n (by first | decide | assumption)).trans ?_; first | assumption | exact x_up_s | (refine (x_up_n (by first | decide | assumption)).trans ?_; first | assumption | exact x_up_s | (refine (x_up_n (by first | decide | assumption)).trans ?_; first | assumption | exact x_up_s | (refine (x_up_n (by first | decide | assumption)).trans ?_; first | assumption | exact x_up_s | (refine (x_up_n (by first | decide | assumption)).trans ?_; first | assumption | exact x_up_s)))))))))))))) rfl (by omega) (by decide) ?_
        refine x_invS clX5_83 dX5_fault_49 (cM_isLook d h' (cs i) hci) (by omega) rfl rfl (Nat.le_of_ble_eq_true rfl) ?_
        rintro r h'' ⟨rfl, rfl⟩
        by_cases h2 : 97 ≤ cs i ∧ cs i < 105
        · rw [decide_eq_true h2]
          refine x_if_eq 60 dX5_fault_52 (by decide) (fun hc => absurd hc (by decide)) (fun _ => ?_)
          exact x_wk (chk (Or.inr (Or.inr (hlk.mpr h2)))) ⟨rfl, rfl, rfl, trivial⟩
        · rw [decide_eq_false h2]
          rw [if_neg (fun z => h1 (Or.inl z)), if_pos ⟨Decidable.not_not.mp (fun z => h1 (Or.inr (hcr.mp z))), Decidable.not_not.mp (fun z => h2 (hlk.mp z))⟩] at hq
          refine x_if_eq 60 dX5_fault_52 (by decide) (fun _ => ?_) (fun hc => absurd (rfl) hc)
          refine x_iload_n (i := 2) dX5_fault_60 rfl rfl ?_
          refine x_iret dX5_fault_61 rfl hq
    refine x_iload_n (i := 2) dX5_fault_4 rfl rfl ?_
    refine x_aload_n (i := 0) dX5_fault_5 rfl rfl ?_
    refine x_get flX5_68 dX5_fault_6 (by first | decide | assumption) (by first | assumption | exact x_up_s | (refine (x_up_n (by first | decide | assumption)).trans ?_; first | assumption | exact x_up_s | (refine (x_up_n (by first | decide | assumption)).trans ?_; first | assumption | exact x_up_s | (refine (x_up_n (by first | decide | assumption)).trans ?_; first | assumption | exact x_up_s | (refine (x_up_n (by first | decide | assumption)).trans ?_; first | assumption | exact x_up_s | (refine (x_up_n (by first | decide | assumption)).trans ?_; first | assumption | exact x_up_s | (refine (x_up_n (by first | decide | assumption)).trans ?_; first | assumption | exact x_up_s | (refine (x_up_n (by first | decide | assumption)).trans ?_; first | assumption | exact x_up_s | (refine (x_up_n (by first | decide | assumption)).trans ?_; first | assumption | exact x_up_s | (refine (x_up_n (by first | decide | assumption)).trans ?_; first | assumption | exact x_up_s | (refine (x_up_n (by first | decide | assumption)).trans ?_; first | assumption | exact x_up_s | (refine (x_up_n (by first | decide | assumption)).trans ?_; first | assumption | exact x_up_s | (refine (x_up_n (by first | decide | assumption)).trans ?_; first | assumption | exact x_up_s | (refine (x_up_n (by first | decide | assumption)).trans ?_; first | assumption | exact x_up_s)))))))))))))) rfl ?_
    refine x_icmp_ge 68 dX5_fault_9 (by decide) (fun hc => absurd hc (nI_ge (by omega) (by omega))) (fun _ => ?_)
    refine x_iload_n (i := 1) dX5_fault_12 rfl rfl ?_
    refine x_aload_n (i := 0) dX5_fault_13 rfl rfl ?_
    refine x_get flX5_19 dX5_fault_14 (by first | decide | assumption) (by first | assumption | exact x_up_s | (refine (x_up_n (by first | decide | assumption)).trans ?_; first | assumption | exact x_up_s | (refine (x_up_n (by first | decide | assumption)).trans ?_; first | assumption | exact x_up_s | (refine (x_up_n (by first | decide | assumption)).trans ?_; first | assumption | exact x_up_s | (refine (x_up_n (by first | decide | assumption)).trans ?_; first | assumption | exact x_up_s | (refine (x_up_n (by first | decide | assumption)).trans ?_; first | assumption | exact x_up_s | (refine (x_up_n (by first | decide | assumption)).trans ?_; first | assumption | exact x_up_s | (refine (x_up_n (by first | decide | assumption)).trans ?_; first | assumption | exact x_up_s | (refine (x_up_n (by first | decide | assumption)).trans ?_; first | assumption | exact x_up_s | (refine (x_up_n (by first | decide | assumption)).trans ?_; first | assumption | exact x_up_s | (refine (x_up_n (by first | decide | assumption)).trans ?_; first | assumption | exact x_up_s | (refine (x_up_n (by first | decide | assumption)).trans ?_; first | assumption | exact x_up_s | (refine (x_up_n (by first | decide | assumption)).trans ?_; first | assumption | exact x_up_s | (refine (x_up_n (by first | decide | assumption)).trans ?_; first | assumption | exact x_up_s)))))))))))))) rfl ?_
    refine x_iload_n (i := 2) dX5_fault_17 rfl rfl ?_
    refine x_iald i dX5_fault_18 (by first | decide | assumption) (by first | assumption | exact x_up_s | (refine (x_up_n (by first | decide | assumption)).trans ?_; first | assumption | exact x_up_s | (refine (x_up_n (by first | decide | assumption)).trans ?_; first | assumption | exact x_up_s | (refine (x_up_n (by first | decide | assumption)).trans ?_; first | assumption | exact x_up_s | (refine (x_up_n (by first | decide | assumption)).trans ?_; first | assumption | exact x_up_s | (refine (x_up_n (by first | decide | assumption)).trans ?_; first | assumption | exact x_up_s | (refine (x_up_n (by first | decide | assumption)).trans ?_; first | assumption | exact x_up_s | (refine (x_up_n (by first | decide | assumption)).trans ?_; first | assumption | exact x_up_s | (refine (x_up_n (by first | decide | assumption)).trans ?_; first | assumption | exact x_up_s | (refine (x_up_n (by first | decide | assumption)).trans ?_; first | assumption | exact x_up_s | (refine (x_up_n (by first | decide | assumption)).trans ?_; first | assumption | exact x_up_s | (refine (x_up_n (by first | decide | assumption)).trans ?_; first | assumption | exact x_up_s | (refine (x_up_n (by first | decide | assumption)).trans ?_; first | assumption | exact x_up_s | (refine (x_up_n (by first | decide | assumption)).trans ?_; first | assumption | exact x_up_s)))))))))))))) rfl (by omega) (by decide) ?_
    refine x_bipush (v := 63) dX5_fault_19 (by decide) ?_
    by_cases h63 : cs i = 63
    · refine x_icmp_ne 28 dX5_fault_21 (by decide) (fun hc => absurd (by rw [h63]; rfl) hc) (fun _ => ?_)
      refine x_iconst (v := 1) dX5_fault_24 (by decide) ?_
      refine x_goto 29 dX5_fault_25 (by decide) ?_
      refine x_iadd dX5_fault_29 ?_
      refine x_topi (nI_1 a) ?_
      refine x_istore_n (i := 1) dX5_fault_30 rfl (by decide) ?_
      exact x_wk (mid (a + 1) (by rw [if_pos h63])) ⟨rfl, rfl, rfl, trivial⟩
    · refine x_icmp_ne 28 dX5_fault_21 (by decide) (fun _ => ?_) (fun hc => absurd hc (fun q => h63 (nI_inj (b := 63) (by omega) (by decide) q)))
      refine x_iconst (v := 0) dX5_fault_28 (by decide) ?_
      refine x_iadd dX5_fault_29 ?_
      refine x_topi (y := nI a) (by show nI a + nI 0 = nI a; rw [nI_add]; rfl) ?_
      refine x_istore_n (i := 1) dX5_fault_30 rfl (by decide) ?_
      exact x_wk (mid a (by rw [if_neg h63])) ⟨rfl, rfl, rfl, trivial⟩
set_option maxRecDepth 100000 in
set_option maxHeartbeats 4000000 in
theorem cM_fault (d : Nat) (h : x_H) {sz ru si my pl lw ev bp bi nw ka iw : Int32} {n : Nat} {cs : Nat → Nat} (hM : h 30 = x_md sz ru si (nI n) my pl lw ev bp bi nw ka iw) (hG : h 34 = x_sg cs) (hok : okD n cs) : x_Ct (d + 2) mX5_fault [.ref 30] h (fun r h' => r = some (.int (fI (ff n cs))) ∧ h' = h) := by
  refine x_enter pnX5_fault (Nat.le_of_ble_eq_true rfl) ?_
  refine x_iconst (v := 0) dX5_fault_0 (by decide) ?_
  refine x_istore_n (i := 1) dX5_fault_1 rfl (by decide) ?_
  refine x_iconst (v := 0) dX5_fault_2 (by decide) ?_
  refine x_istore_n (i := 2) dX5_fault_3 rfl (by decide) ?_
  exact x_wk (cM_fault_loop d h hM hG hok _ n 0 0 (by omega) (by omega) ⟨rfl, rfl⟩) ⟨rfl, rfl, rfl, trivial⟩
set_option maxRecDepth 100000 in
set_option maxHeartbeats 4000000 in
theorem cM_untold_loop (d : Nat) (h : x_H) {sz ru si pm my pl lw ev bp bi nw ka iw : Int32} {cs : Nat → Nat} (hM : h 30 = x_md sz ru si pm my pl lw ev bp bi nw ka iw) (hG : h 34 = x_sg cs) (hcs : ∀ j, cs j < 127) (e : Nat) (he : e ≤ 40) (Q : Option Value → x_H → Prop) :
    ∀ (f i a : Nat), i + f = e → Q (some (.int (nI (a + cntF (askP cs) f i)))) h → x_V d mX5_untoldAmong 4 (x_ls [some (.ref 30), some (.int (nI e)), some (.int (nI a)), some (.int (nI i))]) [] h Q := by
  intro f
  induction f with
  | zero =>
    intro i a hi hq
    refine x_iload_n (i := 3) dX5_untoldAmong_4 rfl rfl ?_
    refine x_iload_n (i := 1) dX5_untoldAmong_5 rfl rfl ?_
    refine x_icmp_ge 34 dX5_untoldAmong_6 (by decide) (fun _ => ?_) (fun hc => absurd (nI_le (by omega) (by omega)) hc)
    refine x_iload_n (i := 2) dX5_untoldAmong_34 rfl rfl ?_
    refine x_iret dX5_untoldAmong_35 rfl hq
  | succ f ih =>
    intro i a hi hq
    have hci := hcs i
    unfold cntF at hq
    refine x_iload_n (i := 3) dX5_untoldAmong_4 rfl rfl ?_
    refine x_iload_n (i := 1) dX5_untoldAmong_5 rfl rfl ?_
    refine x_icmp_ge 34 dX5_untoldAmong_6 (by decide) (fun hc => absurd hc (nI_ge (by omega) (by omega))) (fun _ => ?_)
    refine x_iload_n (i := 2) dX5_untoldAmong_9 rfl rfl ?_
    refine x_aload_n (i := 0) dX5_untoldAmong_10 rfl rfl ?_
    refine x_get flX5_19 dX5_untoldAmong_11 (by first | decide | assumption) (by first | assumption | exact x_up_s | (refine (x_up_n (by first | decide | assumption)).trans ?_; first | assumption | exact x_up_s | (refine (x_up_n (by first | decide | assumption)).trans ?_; first | assumption | exact x_up_s | (refine (x_up_n (by first | decide | assumption)).trans ?_; first | assumption | exact x_up_s | (refine (x_up_n (by first | decide | assumption)).trans ?_; first | assumption | exact x_up_s | (refine (x_up_n (by first | decide | assumption)).trans ?_; first | assumption | exact x_up_s | (refine (x_up_n (by first | decide | assumption)).trans ?_; first | assumption | exact x_up_s | (refine (x_up_n (by first | decide | assumption)).trans ?_; first | assumption | exact x_up_s | (refine (x_up_n (by first | decide | assumption)).trans ?_; first | assumption | exact x_up_s | (refine (x_up_n (by first | decide | assumption)).trans ?_; first | assumption | exact x_up_s | (refine (x_up_n (by first | decide | assumption)).trans ?_; first | assumption | exact x_up_s | (refine (x_up_n (by first | decide | assumption)).trans ?_; first | assumption | exact x_up_s | (refine (x_up_n (by first | decide | assumption)).trans ?_; first | assumption | exact x_up_s | (refine (x_up_n (by first | decide | assumption)).trans ?_; first | assumption | exact x_up_s)))))))))))))) rfl ?_
    refine x_iload_n (i := 3) dX5_untoldAmong_14 rfl rfl ?_
    refine x_iald i dX5_untoldAmong_15 (by first | decide | assumption) (by first | assumption | exact x_up_s | (refine (x_up_n (by first | decide | assumption)).trans ?_; first | assumption | exact x_up_s | (refine (x_up_n (by first | decide | assumption)).trans ?_; first | assumption | exact x_up_s | (refine (x_up_n (by first | decide | assumption)).trans ?_; first | assumption | exact x_up_s | (refine (x_up_n (by first | decide | assumption)).trans ?_; first | assumption | exact x_up_s | (refine (x_up_n (by first | decide | assumption)).trans ?_; first | assumption | exact x_up_s | (refine (x_up_n (by first | decide | assumption)).trans ?_; first | assumption | exact x_up_s | (refine (x_up_n (by first | decide | assumption)).trans ?_; first | assumption | exact x_up_s | (refine (x_up_n (by first | decide | assumption)).trans ?_; first | assumption | exact x_up_s | (refine (x_up_n (by first | decide | assumption)).trans ?_; first | assumption | exact x_up_s | (refine (x_up_n (by first | decide | assumption)).trans ?_; first | assumption | exact x_up_s | (refine (x_up_n (by first | decide | assumption)).trans ?_; first | assumption | exact x_up_s | (refine (x_up_n (by first | decide | assumption)).trans ?_; first | assumption | exact x_up_s | (refine (x_up_n (by first | decide | assumption)).trans ?_; first | assumption | exact x_up_s)))))))))))))) rfl (by omega) (by decide) ?_
    refine x_bipush (v := 63) dX5_untoldAmong_16 (by decide) ?_
    by_cases h63 : cs i = 63
    · have : askP cs i = true := by unfold askP; rw [h63]; rfl
      rw [this, if_pos rfl] at hq
      refine x_icmp_ne 25 dX5_untoldAmong_18 (by decide) (fun hc => absurd (by rw [h63]; rfl) hc) (fun _ => ?_)
      refine x_iconst (v := 1) dX5_untoldAmong_21 (by decide) ?_
      refine x_goto 26 dX5_untoldAmong_22 (by decide) ?_
      refine x_iadd dX5_untoldAmong_26 ?_
      refine x_topi (nI_1 a) ?_
      refine x_istore_n (i := 2) dX5_untoldAmong_27 rfl (by decide) ?_
      first | refine x_incN dX5_untoldAmong_28 rfl (by decide) ?_ | refine x_iinc dX5_untoldAmong_28 rfl rfl (by decide) ?_
      refine x_goto 4 dX5_untoldAmong_31 (by decide) ?_
      exact x_wk (ih (i + 1) (a + 1) (by omega) (by rw [Nat.add_assoc]; exact hq)) ⟨rfl, rfl, rfl, rfl, trivial⟩
    · have : askP cs i = false := by unfold askP; rw [beq_eq_false_iff_ne]; exact h63
      rw [this, if_neg (by decide), Nat.zero_add] at hq
      refine x_icmp_ne 25 dX5_untoldAmong_18 (by decide) (fun _ => ?_) (fun hc => absurd hc (fun q => h63 (nI_inj (b := 63) (by omega) (by decide) q)))
      refine x_iconst (v := 0) dX5_untoldAmong_25 (by decide) ?_
      refine x_iadd dX5_untoldAmong_26 ?_
      refine x_topi (y := nI a) (by show nI a + nI 0 = nI a; rw [nI_add]; rfl) ?_
      refine x_istore_n (i := 2) dX5_untoldAmong_27 rfl (by decide) ?_
      first | refine x_incN dX5_untoldAmong_28 rfl (by decide) ?_ | refine x_iinc dX5_untoldAmong_28 rfl rfl (by decide) ?_
      refine x_goto 4 dX5_untoldAmong_31 (by decide) ?_
      exact x_wk (ih (i + 1) a (by omega) hq) ⟨rfl, rfl, rfl, rfl, trivial⟩
set_option maxRecDepth 100000 in
set_option maxHeartbeats 4000000 in
theorem cM_untold (d : Nat) (h : x_H) {sz ru si pm my pl lw ev bp bi nw ka iw : Int32} {cs : Nat → Nat} (hM : h 30 = x_md sz ru si pm my pl lw ev bp bi nw ka iw) (hG : h 34 = x_sg cs) (hcs : ∀ j, cs j < 127) (e : Nat) (he : e ≤ 40) : x_Ct d mX5_untoldAmong [.ref 30, .int (nI e)] h (fun r h' => r = some (.int (nI (cntF (askP cs) e 0))) ∧ h' = h) := by
  refine x_enter pnX5_untoldAmong (Nat.le_of_ble_eq_true rfl) ?_
  refine x_iconst (v := 0) dX5_untoldAmong_0 (by decide) ?_
  refine x_istore_n (i := 2) dX5_untoldAmong_1 rfl (by decide) ?_
  refine x_iconst (v := 0) dX5_untoldAmong_2 (by decide) ?_
  refine x_istore_n (i := 3) dX5_untoldAmong_3 rfl (by decide) ?_
  exact x_wk (cM_untold_loop d h hM hG hcs e he _ e 0 0 (by omega) ⟨by rw [Nat.zero_add], rfl⟩) ⟨rfl, rfl, rfl, rfl, trivial⟩
theorem any_cnt (p : Nat → Bool) : ∀ (f i : Nat), anyF p f i = decide (0 < cntF p f i)
  | 0, _ => rfl
  | f + 1, i => by
    unfold anyF cntF
    rw [any_cnt p f (i + 1)]
    cases p i with
    | true => simp only [Bool.true_or, if_true]; exact (decide_eq_true (by omega)).symm
    | false => simp
def mrf (n : Nat) (cs : Nat → Nat) : Int32 := match ff n cs with
  | some _ => -5
  | none => if anyF (askP cs) n 0 then -3 else -6
theorem mrf_rfs (n : Nat) (cs : Nat → Nat) : (mrf n cs = -6 ↔ rfs n cs n = 0) ∧ (mrf n cs ≠ -6 → mrf n cs = rfs n cs n) := by
  unfold mrf rfs
  cases ff n cs with
  | some i => dsimp only; exact ⟨⟨fun h => absurd h (by decide), fun h => absurd h (by decide)⟩, fun _ => rfl⟩
  | none =>
    dsimp only
    cases anyF (askP cs) n 0 with
    | true => exact ⟨⟨fun h => absurd h (by decide), fun h => absurd h (by decide)⟩, fun _ => rfl⟩
    | false => exact ⟨⟨fun _ => rfl, fun _ => rfl⟩, fun h => absurd rfl h⟩
theorem fI_lt0 {o : Option Nat} (ho : ∀ p, o = some p → p < 2 ^ 31) : fI o < 0 ↔ o = none := by
  cases o with
  | none => simp only [fI, iff_true]; decide
  | some p => simp only [fI, reduceCtorEq, iff_false]; exact nI_pos (ho p rfl)
set_option maxRecDepth 100000 in
set_option maxHeartbeats 4000000 in
theorem cM_refusal (d : Nat) (h : x_H) {sz ru si my pl lw ev bp bi nw ka iw : Int32} {n : Nat} {cs : Nat → Nat} (hM : h 30 = x_md sz ru si (nI n) my pl lw ev bp bi nw ka iw) (hG : h 34 = x_sg cs) (hok : okD n cs) : x_Ct (d + 3) mX5_refusal [.ref 30] h (fun r h' => r = some (.int (mrf n cs)) ∧ h' = h) := by
  have hn := hok.1
  have hf0 := fI_lt0 (o := ff n cs) (fun p hp => by have := ffA_lt cs _ _ _ _ hp; omega)
  refine x_enter pnX5_refusal (Nat.le_of_ble_eq_true rfl) ?_
  refine x_aload_n (i := 0) dX5_refusal_0 rfl rfl ?_
  refine x_invV clX5_86 dX5_refusal_1 (cM_fault d h hM hG hok) (by omega) rfl (by first | decide | assumption) (by first | assumption | exact x_up_s | (refine (x_up_n (by first | decide | assumption)).trans ?_; first | assumption | exact x_up_s | (refine (x_up_n (by first | decide | assumption)).trans ?_; first | assumption | exact x_up_s | (refine (x_up_n (by first | decide | assumption)).trans ?_; first | assumption | exact x_up_s | (refine (x_up_n (by first | decide | assumption)).trans ?_; first | assumption | exact x_up_s | (refine (x_up_n (by first | decide | assumption)).trans ?_; first | assumption | exact x_up_s | (refine (x_up_n (by first | decide | assumption)).trans ?_; first | assumption | exact x_up_s | (refine (x_up_n (by first | decide | assumption)).trans ?_; first | assumption | exact x_up_s | (refine (x_up_n (by first | decide | assumption)).trans ?_; first | assumption | exact x_up_s | (refine (x_up_n (by first | decide | assumption)).trans ?_; first | assumption | exact x_up_s | (refine (x_up_n (by first | decide | assumption)).trans ?_; first | assumption | exact x_up_s | (refine (x_up_n (by first | decide | assumption)).trans ?_; first | assumption | exact x_up_s | (refine (x_up_n (by first | decide | assumption)).trans ?_; first | assumption | exact x_up_s | (refine (x_up_n (by first | decide | assumption)).trans ?_; first | assumption | exact x_up_s)))))))))))))) rfl (Nat.le_of_ble_eq_true rfl) ?_
  rintro r h' ⟨rfl, rfl⟩
  refine x_if_lt 12 dX5_refusal_4 (by decide) (fun hc => ?_) (fun hc => ?_)
  · have hf := hf0.mp hc
    refine x_aload_n (i := 0) dX5_refusal_12 rfl rfl ?_
    refine x_aload_n (i := 0) dX5_refusal_13 rfl rfl ?_
    refine x_get flX5_68 dX5_refusal_14 (by first | decide | assumption) (by first | assumption | exact x_up_s | (refine (x_up_n (by first | decide | assumption)).trans ?_; first | assumption | exact x_up_s | (refine (x_up_n (by first | decide | assumption)).trans ?_; first | assumption | exact x_up_s | (refine (x_up_n (by first | decide | assumption)).trans ?_; first | assumption | exact x_up_s | (refine (x_up_n (by first | decide | assumption)).trans ?_; first | assumption | exact x_up_s | (refine (x_up_n (by first | decide | assumption)).trans ?_; first | assumption | exact x_up_s | (refine (x_up_n (by first | decide | assumption)).trans ?_; first | assumption | exact x_up_s | (refine (x_up_n (by first | decide | assumption)).trans ?_; first | assumption | exact x_up_s | (refine (x_up_n (by first | decide | assumption)).trans ?_; first | assumption | exact x_up_s | (refine (x_up_n (by first | decide | assumption)).trans ?_; first | assumption | exact x_up_s | (refine (x_up_n (by first | decide | assumption)).trans ?_; first | assumption | exact x_up_s | (refine (x_up_n (by first | decide | assumption)).trans ?_; first | assumption | exact x_up_s | (refine (x_up_n (by first | decide | assumption)).trans ?_; first | assumption | exact x_up_s | (refine (x_up_n (by first | decide | assumption)).trans ?_; first | assumption | exact x_up_s)))))))))))))) rfl ?_
    refine x_invV clX5_90 dX5_refusal_17 (cM_untold d h' hM hG hok.2 n hn) (by omega) rfl (by first | decide | assumption) (by first | assumption | exact x_up_s | (refine (x_up_n (by first | decide | assumption)).trans ?_; first | assumption | exact x_up_s | (refine (x_up_n (by first | decide | assumption)).trans ?_; first | assumption | exact x_up_s | (refine (x_up_n (by first | decide | assumption)).trans ?_; first | assumption | exact x_up_s | (refine (x_up_n (by first | decide | assumption)).trans ?_; first | assumption | exact x_up_s | (refine (x_up_n (by first | decide | assumption)).trans ?_; first | assumption | exact x_up_s | (refine (x_up_n (by first | decide | assumption)).trans ?_; first | assumption | exact x_up_s | (refine (x_up_n (by first | decide | assumption)).trans ?_; first | assumption | exact x_up_s | (refine (x_up_n (by first | decide | assumption)).trans ?_; first | assumption | exact x_up_s | (refine (x_up_n (by first | decide | assumption)).trans ?_; first | assumption | exact x_up_s | (refine (x_up_n (by first | decide | assumption)).trans ?_; first | assumption | exact x_up_s | (refine (x_up_n (by first | decide | assumption)).trans ?_; first | assumption | exact x_up_s | (refine (x_up_n (by first | decide | assumption)).trans ?_; first | assumption | exact x_up_s | (refine (x_up_n (by first | decide | assumption)).trans ?_; first | assumption | exact x_up_s)))))))))))))) rfl (Nat.le_of_ble_eq_true rfl) ?_
    rintro r h'' ⟨rfl, rfl⟩
    have hcl := cntF_le (askP cs) n 0
    have hac := any_cnt (askP cs) n 0
    by_cases hz : 0 < cntF (askP cs) n 0
    · refine x_if_le 28 dX5_refusal_20 (by decide) (fun hc => absurd hc (fun q => absurd ((nI_leI (b := 0) (by omega) (by decide)).mp q) (by omega))) (fun _ => ?_)
      refine x_bipush (v := (-3)) dX5_refusal_23 (by decide) ?_
      refine x_goto 30 dX5_refusal_25 (by decide) ?_
      refine x_iret dX5_refusal_30 rfl ⟨by unfold mrf; rw [hf, hac, decide_eq_true hz]; rfl, rfl⟩
    · refine x_if_le 28 dX5_refusal_20 (by decide) (fun _ => ?_) (fun hc => absurd (nI_le (b := 0) (by omega) (by decide)) hc)
      refine x_bipush (v := (-6)) dX5_refusal_28 (by decide) ?_
      refine x_iret dX5_refusal_30 rfl ⟨by unfold mrf; rw [hf, hac, decide_eq_false hz]; rfl, rfl⟩
  · have : ∃ i, ff n cs = some i := by
      cases hf : ff n cs with
      | none => exact absurd (hf0.mpr hf) hc
      | some i => exact ⟨i, rfl⟩
    obtain ⟨i, hi⟩ := this
    refine x_bipush (v := (-5)) dX5_refusal_7 (by decide) ?_
    refine x_goto 30 dX5_refusal_9 (by decide) ?_
    refine x_iret dX5_refusal_30 rfl ⟨by unfold mrf; rw [hi], rfl⟩
set_option maxRecDepth 100000 in
set_option maxHeartbeats 4000000 in
theorem cM_clear (d : Nat) (h : x_H) {sz ru si pm my pl lw ev bp bi nw ka iw : Int32} (hM : h 30 = x_md sz ru si pm my pl lw ev bp bi nw ka iw) : x_Ct d mX5_clear [.ref 30] h (fun r h' => r = none ∧ h' = x_up h 30 (x_md sz ru si pm (0) (sz) (ru) ev bp bi nw ka iw)) := by
  refine x_enter pnX5_clear (Nat.le_of_ble_eq_true rfl) ?_
  refine x_aload_n (i := 0) dX5_clear_0 rfl rfl ?_
  refine x_iconst (v := 0) dX5_clear_1 (by decide) ?_
  refine x_put fpX5_94 dX5_clear_2 (by first | decide | assumption) (by first | assumption | exact x_up_s | (refine (x_up_n (by first | decide | assumption)).trans ?_; first | assumption | exact x_up_s | (refine (x_up_n (by first | decide | assumption)).trans ?_; first | assumption | exact x_up_s | (refine (x_up_n (by first | decide | assumption)).trans ?_; first | assumption | exact x_up_s | (refine (x_up_n (by first | decide | assumption)).trans ?_; first | assumption | exact x_up_s | (refine (x_up_n (by first | decide | assumption)).trans ?_; first | assumption | exact x_up_s | (refine (x_up_n (by first | decide | assumption)).trans ?_; first | assumption | exact x_up_s | (refine (x_up_n (by first | decide | assumption)).trans ?_; first | assumption | exact x_up_s | (refine (x_up_n (by first | decide | assumption)).trans ?_; first | assumption | exact x_up_s | (refine (x_up_n (by first | decide | assumption)).trans ?_; first | assumption | exact x_up_s | (refine (x_up_n (by first | decide | assumption)).trans ?_; first | assumption | exact x_up_s | (refine (x_up_n (by first | decide | assumption)).trans ?_; first | assumption | exact x_up_s | (refine (x_up_n (by first | decide | assumption)).trans ?_; first | assumption | exact x_up_s | (refine (x_up_n (by first | decide | assumption)).trans ?_; first | assumption | exact x_up_s)))))))))))))) rfl rfl (fun _ => rfl) (Nat.le_of_ble_eq_true rfl) rfl ?_
  refine x_aload_n (i := 0) dX5_clear_5 rfl rfl ?_
  refine x_aload_n (i := 0) dX5_clear_6 rfl rfl ?_
  refine x_get flX5_47 dX5_clear_7 (by first | decide | assumption) (by first | assumption | exact x_up_s | (refine (x_up_n (by first | decide | assumption)).trans ?_; first | assumption | exact x_up_s | (refine (x_up_n (by first | decide | assumption)).trans ?_; first | assumption | exact x_up_s | (refine (x_up_n (by first | decide | assumption)).trans ?_; first | assumption | exact x_up_s | (refine (x_up_n (by first | decide | assumption)).trans ?_; first | assumption | exact x_up_s | (refine (x_up_n (by first | decide | assumption)).trans ?_; first | assumption | exact x_up_s | (refine (x_up_n (by first | decide | assumption)).trans ?_; first | assumption | exact x_up_s | (refine (x_up_n (by first | decide | assumption)).trans ?_; first | assumption | exact x_up_s | (refine (x_up_n (by first | decide | assumption)).trans ?_; first | assumption | exact x_up_s | (refine (x_up_n (by first | decide | assumption)).trans ?_; first | assumption | exact x_up_s | (refine (x_up_n (by first | decide | assumption)).trans ?_; first | assumption | exact x_up_s | (refine (x_up_n (by first | decide | assumption)).trans ?_; first | assumption | exact x_up_s | (refine (x_up_n (by first | decide | assumption)).trans ?_; first | assumption | exact x_up_s | (refine (x_up_n (by first | decide | assumption)).trans ?_; first | assumption | exact x_up_s)))))))))))))) rfl ?_
  refine x_put fpX5_97 dX5_clear_10 (by first | decide | assumption) (by first | assumption | exact x_up_s | (refine (x_up_n (by first | decide | assumption)).trans ?_; first | assumption | exact x_up_s | (refine (x_up_n (by first | decide | assumption)).trans ?_; first | assumption | exact x_up_s | (refine (x_up_n (by first | decide | assumption)).trans ?_; first | assumption | exact x_up_s | (refine (x_up_n (by first | decide | assumption)).trans ?_; first | assumption | exact x_up_s | (refine (x_up_n (by first | decide | assumption)).trans ?_; first | assumption | exact x_up_s | (refine (x_up_n (by first | decide | assumption)).trans ?_; first | assumption | exact x_up_s | (refine (x_up_n (by first | decide | assumption)).trans ?_; first | assumption | exact x_up_s | (refine (x_up_n (by first | decide | assumption)).trans ?_; first | assumption | exact x_up_s | (refine (x_up_n (by first | decide | assumption)).trans ?_; first | assumption | exact x_up_s | (refine (x_up_n (by first | decide | assumption)).trans ?_; first | assumption | exact x_up_s | (refine (x_up_n (by first | decide | assumption)).trans ?_; first | assumption | exact x_up_s | (refine (x_up_n (by first | decide | assumption)).trans ?_; first | assumption | exact x_up_s | (refine (x_up_n (by first | decide | assumption)).trans ?_; first | assumption | exact x_up_s)))))))))))))) rfl rfl (fun _ => rfl) (Nat.le_of_ble_eq_true rfl) rfl ?_
  refine x_aload_n (i := 0) dX5_clear_13 rfl rfl ?_
  refine x_aload_n (i := 0) dX5_clear_14 rfl rfl ?_
  refine x_get flX5_61 dX5_clear_15 (by first | decide | assumption) (by first | assumption | exact x_up_s | (refine (x_up_n (by first | decide | assumption)).trans ?_; first | assumption | exact x_up_s | (refine (x_up_n (by first | decide | assumption)).trans ?_; first | assumption | exact x_up_s | (refine (x_up_n (by first | decide | assumption)).trans ?_; first | assumption | exact x_up_s | (refine (x_up_n (by first | decide | assumption)).trans ?_; first | assumption | exact x_up_s | (refine (x_up_n (by first | decide | assumption)).trans ?_; first | assumption | exact x_up_s | (refine (x_up_n (by first | decide | assumption)).trans ?_; first | assumption | exact x_up_s | (refine (x_up_n (by first | decide | assumption)).trans ?_; first | assumption | exact x_up_s | (refine (x_up_n (by first | decide | assumption)).trans ?_; first | assumption | exact x_up_s | (refine (x_up_n (by first | decide | assumption)).trans ?_; first | assumption | exact x_up_s | (refine (x_up_n (by first | decide | assumption)).trans ?_; first | assumption | exact x_up_s | (refine (x_up_n (by first | decide | assumption)).trans ?_; first | assumption | exact x_up_s | (refine (x_up_n (by first | decide | assumption)).trans ?_; first | assumption | exact x_up_s | (refine (x_up_n (by first | decide | assumption)).trans ?_; first | assumption | exact x_up_s)))))))))))))) rfl ?_
  refine x_put fpX5_100 dX5_clear_18 (by first | decide | assumption) (by first | assumption | exact x_up_s | (refine (x_up_n (by first | decide | assumption)).trans ?_; first | assumption | exact x_up_s | (refine (x_up_n (by first | decide | assumption)).trans ?_; first | assumption | exact x_up_s | (refine (x_up_n (by first | decide | assumption)).trans ?_; first | assumption | exact x_up_s | (refine (x_up_n (by first | decide | assumption)).trans ?_; first | assumption | exact x_up_s | (refine (x_up_n (by first | decide | assumption)).trans ?_; first | assumption | exact x_up_s | (refine (x_up_n (by first | decide | assumption)).trans ?_; first | assumption | exact x_up_s | (refine (x_up_n (by first | decide | assumption)).trans ?_; first | assumption | exact x_up_s | (refine (x_up_n (by first | decide | assumption)).trans ?_; first | assumption | exact x_up_s | (refine (x_up_n (by first | decide | assumption)).trans ?_; first | assumption | exact x_up_s | (refine (x_up_n (by first | decide | assumption)).trans ?_; first | assumption | exact x_up_s | (refine (x_up_n (by first | decide | assumption)).trans ?_; first | assumption | exact x_up_s | (refine (x_up_n (by first | decide | assumption)).trans ?_; first | assumption | exact x_up_s | (refine (x_up_n (by first | decide | assumption)).trans ?_; first | assumption | exact x_up_s)))))))))))))) rfl rfl (fun _ => rfl) (Nat.le_of_ble_eq_true rfl) rfl ?_
  refine x_vret dX5_clear_21 rfl ⟨rfl, by rw [x_up_up, x_up_up]; rfl⟩
/-! the board of the model: names and events by places -/
def lst (m : Nat) (nf wf : Nat → Nat) : Bd := (List.range m).map (fun j => (nf j, wf j))
theorem lst_len (m : Nat) (nf wf : Nat → Nat) : (lst m nf wf).length = m := by simp [lst]
theorem lst_get {m : Nat} {nf wf : Nat → Nat} {j : Nat} (hj : j < m) : (lst m nf wf)[j]? = some (nf j, wf j) := by simp [lst, hj]
theorem lst_eq {b : Bd} {m : Nat} {nf wf : Nat → Nat} (hl : b.length = m) (h : ∀ j, j < m → b[j]? = some (nf j, wf j)) : lst m nf wf = b := by
  apply List.ext_getElem?
  intro j
  by_cases hj : j < m
  · rw [lst_get hj, h j hj]
  · rw [List.getElem?_eq_none (by rw [lst_len]; omega), List.getElem?_eq_none (by omega)]
set_option maxRecDepth 100000 in
set_option maxHeartbeats 4000000 in
theorem cM_placeOf_loop (d : Nat) (h : x_H) {sz ru si pm pl lw ev bp bi nw ka iw : Int32} {m : Nat} {nf wf : Nat → Nat} (hM : h 30 = x_md sz ru si pm (nI m) pl lw ev bp bi nw ka iw) (hN : h 35 = x_na 11 nf) (hm : m ≤ 11) (hnf : ∀ j, nf j < 2 ^ 31) (who : Nat) (hw : who < 2 ^ 31) (Q : Option Value → x_H → Prop) (hq : Q (some (.int (fI (bfind who (lst m nf wf))))) h) :
    ∀ (f i : Nat), i + f = m → (∀ j, j < i → nf j ≠ who) → x_V d mX5_placeOf 2 (x_ls [some (.ref 30), some (.int (nI who)), some (.int (nI i))]) [] h Q := by
  intro f
  induction f with
  | zero =>
    intro i hi hno
    have : bfind who (lst m nf wf) = none := by
      unfold bfind
      rw [List.findIdx?_eq_none_iff]
      intro q hqm
      obtain ⟨j, hj, rfl⟩ := List.mem_map.mp hqm
      have := hno j (by have := List.mem_range.mp hj; omega)
      simpa using this
    rw [this] at hq
    refine x_iload_n (i := 2) dX5_placeOf_2 rfl rfl ?_
    refine x_aload_n (i := 0) dX5_placeOf_3 rfl rfl ?_
    refine x_get flX5_94 dX5_placeOf_4 (by first | decide | assumption) (by first | assumption | exact x_up_s | (refine (x_up_n (by first | decide | assumption)).trans ?_; first | assumption | exact x_up_s | (refine (x_up_n (by first | decide | assumption)).trans ?_; first | assumption | exact x_up_s | (refine (x_up_n (by first | decide | assumption)).trans ?_; first | assumption | exact x_up_s | (refine (x_up_n (by first | decide | assumption)).trans ?_; first | assumption | exact x_up_s | (refine (x_up_n (by first | decide | assumption)).trans ?_; first | assumption | exact x_up_s | (refine (x_up_n (by first | decide | assumption)).trans ?_; first | assumption | exact x_up_s | (refine (x_up_n (by first | decide | assumption)).trans ?_; first | assumption | exact x_up_s | (refine (x_up_n (by first | decide | assumption)).trans ?_; first | assumption | exact x_up_s | (refine (x_up_n (by first | decide | assumption)).trans ?_; first | assumption | exact x_up_s | (refine (x_up_n (by first | decide | assumption)).trans ?_; first | assumption | exact x_up_s | (refine (x_up_n (by first | decide | assumption)).trans ?_; first | assumption | exact x_up_s | (refine (x_up_n (by first | decide | assumption)).trans ?_; first | assumption | exact x_up_s | (refine (x_up_n (by first | decide | assumption)).trans ?_; first | assumption | exact x_up_s)))))))))))))) rfl ?_
    refine x_icmp_ge 28 dX5_placeOf_7 (by decide) (fun _ => ?_) (fun hc => absurd (nI_le (by omega) (by omega)) hc)
    refine x_bipush (v := (-6)) dX5_placeOf_28 (by decide) ?_
    refine x_iret dX5_placeOf_30 rfl hq
  | succ f ih =>
    intro i hi hno
    refine x_iload_n (i := 2) dX5_placeOf_2 rfl rfl ?_
    refine x_aload_n (i := 0) dX5_placeOf_3 rfl rfl ?_
    refine x_get flX5_94 dX5_placeOf_4 (by first | decide | assumption) (by first | assumption | exact x_up_s | (refine (x_up_n (by first | decide | assumption)).trans ?_; first | assumption | exact x_up_s | (refine (x_up_n (by first | decide | assumption)).trans ?_; first | assumption | exact x_up_s | (refine (x_up_n (by first | decide | assumption)).trans ?_; first | assumption | exact x_up_s | (refine (x_up_n (by first | decide | assumption)).trans ?_; first | assumption | exact x_up_s | (refine (x_up_n (by first | decide | assumption)).trans ?_; first | assumption | exact x_up_s | (refine (x_up_n (by first | decide | assumption)).trans ?_; first | assumption | exact x_up_s | (refine (x_up_n (by first | decide | assumption)).trans ?_; first | assumption | exact x_up_s | (refine (x_up_n (by first | decide | assumption)).trans ?_; first | assumption | exact x_up_s | (refine (x_up_n (by first | decide | assumption)).trans ?_; first | assumption | exact x_up_s | (refine (x_up_n (by first | decide | assumption)).trans ?_; first | assumption | exact x_up_s | (refine (x_up_n (by first | decide | assumption)).trans ?_; first | assumption | exact x_up_s | (refine (x_up_n (by first | decide | assumption)).trans ?_; first | assumption | exact x_up_s | (refine (x_up_n (by first | decide | assumption)).trans ?_; first | assumption | exact x_up_s)))))))))))))) rfl ?_
    refine x_icmp_ge 28 dX5_placeOf_7 (by decide) (fun hc => absurd hc (nI_ge (by omega) (by omega))) (fun _ => ?_)
    refine x_aload_n (i := 0) dX5_placeOf_10 rfl rfl ?_
    refine x_get flX5_22 dX5_placeOf_11 (by first | decide | assumption) (by first | assumption | exact x_up_s | (refine (x_up_n (by first | decide | assumption)).trans ?_; first | assumption | exact x_up_s | (refine (x_up_n (by first | decide | assumption)).trans ?_; first | assumption | exact x_up_s | (refine (x_up_n (by first | decide | assumption)).trans ?_; first | assumption | exact x_up_s | (refine (x_up_n (by first | decide | assumption)).trans ?_; first | assumption | exact x_up_s | (refine (x_up_n (by first | decide | assumption)).trans ?_; first | assumption | exact x_up_s | (refine (x_up_n (by first | decide | assumption)).trans ?_; first | assumption | exact x_up_s | (refine (x_up_n (by first | decide | assumption)).trans ?_; first | assumption | exact x_up_s | (refine (x_up_n (by first | decide | assumption)).trans ?_; first | assumption | exact x_up_s | (refine (x_up_n (by first | decide | assumption)).trans ?_; first | assumption | exact x_up_s | (refine (x_up_n (by first | decide | assumption)).trans ?_; first | assumption | exact x_up_s | (refine (x_up_n (by first | decide | assumption)).trans ?_; first | assumption | exact x_up_s | (refine (x_up_n (by first | decide | assumption)).trans ?_; first | assumption | exact x_up_s | (refine (x_up_n (by first | decide | assumption)).trans ?_; first | assumption | exact x_up_s)))))))))))))) rfl ?_
    refine x_iload_n (i := 2) dX5_placeOf_14 rfl rfl ?_
    refine x_iald i dX5_placeOf_15 (by first | decide | assumption) (by first | assumption | exact x_up_s | (refine (x_up_n (by first | decide | assumption)).trans ?_; first | assumption | exact x_up_s | (refine (x_up_n (by first | decide | assumption)).trans ?_; first | assumption | exact x_up_s | (refine (x_up_n (by first | decide | assumption)).trans ?_; first | assumption | exact x_up_s | (refine (x_up_n (by first | decide | assumption)).trans ?_; first | assumption | exact x_up_s | (refine (x_up_n (by first | decide | assumption)).trans ?_; first | assumption | exact x_up_s | (refine (x_up_n (by first | decide | assumption)).trans ?_; first | assumption | exact x_up_s | (refine (x_up_n (by first | decide | assumption)).trans ?_; first | assumption | exact x_up_s | (refine (x_up_n (by first | decide | assumption)).trans ?_; first | assumption | exact x_up_s | (refine (x_up_n (by first | decide | assumption)).trans ?_; first | assumption | exact x_up_s | (refine (x_up_n (by first | decide | assumption)).trans ?_; first | assumption | exact x_up_s | (refine (x_up_n (by first | decide | assumption)).trans ?_; first | assumption | exact x_up_s | (refine (x_up_n (by first | decide | assumption)).trans ?_; first | assumption | exact x_up_s | (refine (x_up_n (by first | decide | assumption)).trans ?_; first | assumption | exact x_up_s)))))))))))))) rfl (by omega) (by decide) ?_
    refine x_iload_n (i := 1) dX5_placeOf_16 rfl rfl ?_
    by_cases he : nf i = who
    · have : bfind who (lst m nf wf) = some i := by
        unfold bfind
        rw [List.findIdx?_eq_some_iff_getElem]
        refine ⟨by rw [lst_len]; omega, by simp [lst, he], fun j hj => ?_⟩
        have := hno j hj
        simpa [lst] using this
      rw [this] at hq
      refine x_icmp_ne 22 dX5_placeOf_17 (by decide) (fun hc => absurd (by rw [he]) hc) (fun _ => ?_)
      refine x_iload_n (i := 2) dX5_placeOf_20 rfl rfl ?_
      refine x_iret dX5_placeOf_21 rfl hq
    · refine x_icmp_ne 22 dX5_placeOf_17 (by decide) (fun _ => ?_) (fun hc => absurd hc (fun q => he (nI_inj (hnf i) hw q)))
      first | refine x_incN dX5_placeOf_22 rfl (by decide) ?_ | refine x_iinc dX5_placeOf_22 rfl rfl (by decide) ?_
      refine x_goto 2 dX5_placeOf_25 (by decide) ?_
      exact x_wk (ih (i + 1) (by omega) (fun j hj => by
        rcases Nat.lt_or_ge j i with z | z
        · exact hno j z
        · have : j = i := by omega
          subst this; exact he)) ⟨rfl, rfl, rfl, trivial⟩
set_option maxRecDepth 100000 in
set_option maxHeartbeats 4000000 in
theorem cM_placeOf (d : Nat) (h : x_H) {sz ru si pm pl lw ev bp bi nw ka iw : Int32} {m : Nat} {nf : Nat → Nat} (wf : Nat → Nat) (hM : h 30 = x_md sz ru si pm (nI m) pl lw ev bp bi nw ka iw) (hN : h 35 = x_na 11 nf) (hm : m ≤ 11) (hnf : ∀ j, nf j < 2 ^ 31) (who : Nat) (hw : who < 2 ^ 31) : x_Ct d mX5_placeOf [.ref 30, .int (nI who)] h (fun r h' => r = some (.int (fI (bfind who (lst m nf wf)))) ∧ h' = h) := by
  refine x_enter pnX5_placeOf (Nat.le_of_ble_eq_true rfl) ?_
  refine x_iconst (v := 0) dX5_placeOf_0 (by decide) ?_
  refine x_istore_n (i := 2) dX5_placeOf_1 rfl (by decide) ?_
  exact x_wk (cM_placeOf_loop d h hM hN hm hnf who hw _ ⟨rfl, rfl⟩ m 0 (by omega) (fun j hj => by omega)) ⟨rfl, rfl, rfl, trivial⟩
