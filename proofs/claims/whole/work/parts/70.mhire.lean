/-! plans of boys -/
def lnz (pf : Nat → Nat) : Nat → Nat
  | 0 => 0
  | k + 1 => if pf k = 0 then lnz pf k else k + 1
theorem lnz_le (pf : Nat → Nat) : ∀ k, lnz pf k ≤ k
  | 0 => Nat.le_refl _
  | k + 1 => by
    unfold lnz
    have := lnz_le pf k
    split <;> omega
theorem lnz_nz (pf : Nat → Nat) : ∀ k, 0 < lnz pf k → pf (lnz pf k - 1) ≠ 0
  | 0, h => by unfold lnz at h; omega
  | k + 1, h => by
    unfold lnz at h ⊢
    split
    · rename_i hz
      rw [if_pos hz] at h
      exact lnz_nz pf k h
    · rename_i hz
      exact hz
/-- the plan behind, when l is the last look with boys -/
def npF (q l : Nat) (pf : Nat → Nat) : Nat → Nat := csU (csU (csU pf l 0) (l - 1) (pf (l - 1) + 1)) (q - 1) (pf l - 1)
def npP (q : Nat) (pf : Nat → Nat) : Nat → Nat := if 1 < lnz pf q then npF q (lnz pf q - 1) pf else pf
theorem m1_lt0 : ((-1 : Int32) < 0) := by decide
set_option maxRecDepth 100000 in
set_option maxHeartbeats 4000000 in
theorem cM_np_loop (d : Nat) (h : x_H) {sz ru si pm my pl lw ev bp bi nw ka iw : Int32} (hM : h 30 = x_md sz ru si pm my pl lw ev bp bi nw ka iw) {pf : Nat → Nat} (hP : h 40 = x_na 6 pf) (q : Nat) (hq6 : q ≤ 6) (hpf : ∀ j, j < 6 → pf j ≤ 9) (Q : Option Value → x_H → Prop)
    (K : x_V d mX5_nextPlan 23 (x_ls [some (.ref 30), some (.int (nI q)), some (.int (nI (lnz pf q) - 1))]) [] h Q) :
    ∀ (k : Nat), k ≤ q → lnz pf k = lnz pf q → x_V d mX5_nextPlan 4 (x_ls [some (.ref 30), some (.int (nI q)), some (.int (nI k - 1))]) [] h Q := by
  intro k
  induction k with
  | zero =>
    intro hk hl
    rw [← hl] at K
    refine x_iload_n (i := 2) dX5_nextPlan_4 rfl rfl ?_
    refine x_if_lt 23 dX5_nextPlan_5 (by decide) (fun _ => ?_) (fun hc => absurd (by decide) hc)
    exact x_wk K ⟨rfl, rfl, rfl, trivial⟩
  | succ k ih =>
    intro hk hl
    have e1 : nI (k + 1) - 1 = nI k := nI_s1 k
    have h9 := hpf k (by omega)
    rw [show lnz pf (k + 1) = if pf k = 0 then lnz pf k else k + 1 from rfl] at hl
    refine x_iload_n (i := 2) dX5_nextPlan_4 rfl rfl ?_
    rw [e1]
    refine x_if_lt 23 dX5_nextPlan_5 (by decide) (fun hc => absurd hc (nI_pos (by omega))) (fun _ => ?_)
    refine x_aload_n (i := 0) dX5_nextPlan_8 rfl rfl ?_
    refine x_get flX5_38 dX5_nextPlan_9 (by first | decide | assumption) (by first | assumption | exact x_up_s | (refine (x_up_n (by first | decide | assumption)).trans ?_; first | assumption | exact x_up_s | (refine (x_up_n (by first | decide | assumption)).trans ?_; first | assumption | exact x_up_s | (refine (x_up_n (by first | decide | assumption)).trans ?_; first | assumption | exact x_up_s | (refine (x_up_n (by first | decide | assumption)).trans ?_; first | assumption | exact x_up_s | (refine (x_up_n (by first | decide | assumption)).trans ?_; first | assumption | exact x_up_s | (refine (x_up_n (by first | decide | assumption)).trans ?_; first | assumption | exact x_up_s | (refine (x_up_n (by first | decide | assumption)).trans ?_; first | assumption | exact x_up_s | (refine (x_up_n (by first | decide | assumption)).trans ?_; first | assumption | exact x_up_s | (refine (x_up_n (by first | decide | assumption)).trans ?_; first | assumption | exact x_up_s | (refine (x_up_n (by first | decide | assumption)).trans ?_; first | assumption | exact x_up_s | (refine (x_up_n (by first | decide | assumption)).trans ?_; first | assumption | exact x_up_s | (refine (x_up_n (by first | decide | assumption)).trans ?_; first | assumption | exact x_up_s | (refine (x_up_n (by first | decide | assumption)).trans ?_; first | assumption | exact x_up_s)))))))))))))) rfl ?_
    refine x_iload_n (i := 2) dX5_nextPlan_12 rfl rfl ?_
    refine x_iald k dX5_nextPlan_13 (by first | decide | assumption) (by first | assumption | exact x_up_s | (refine (x_up_n (by first | decide | assumption)).trans ?_; first | assumption | exact x_up_s | (refine (x_up_n (by first | decide | assumption)).trans ?_; first | assumption | exact x_up_s | (refine (x_up_n (by first | decide | assumption)).trans ?_; first | assumption | exact x_up_s | (refine (x_up_n (by first | decide | assumption)).trans ?_; first | assumption | exact x_up_s | (refine (x_up_n (by first | decide | assumption)).trans ?_; first | assumption | exact x_up_s | (refine (x_up_n (by first | decide | assumption)).trans ?_; first | assumption | exact x_up_s | (refine (x_up_n (by first | decide | assumption)).trans ?_; first | assumption | exact x_up_s | (refine (x_up_n (by first | decide | assumption)).trans ?_; first | assumption | exact x_up_s | (refine (x_up_n (by first | decide | assumption)).trans ?_; first | assumption | exact x_up_s | (refine (x_up_n (by first | decide | assumption)).trans ?_; first | assumption | exact x_up_s | (refine (x_up_n (by first | decide | assumption)).trans ?_; first | assumption | exact x_up_s | (refine (x_up_n (by first | decide | assumption)).trans ?_; first | assumption | exact x_up_s | (refine (x_up_n (by first | decide | assumption)).trans ?_; first | assumption | exact x_up_s)))))))))))))) rfl (by omega) (by decide) ?_
    by_cases hz : pf k = 0
    · rw [if_pos hz] at hl
      rw [hz]
      refine x_if_ne 23 dX5_nextPlan_14 (by decide) (fun hc => absurd (rfl) hc) (fun _ => ?_)
      refine x_dec dX5_nextPlan_17 rfl (by decide) ?_
      refine x_goto 4 dX5_nextPlan_20 (by decide) ?_
      exact x_wk (ih (by omega) hl) ⟨rfl, rfl, rfl, trivial⟩
    · rw [if_neg hz] at hl
      rw [← hl, e1] at K
      refine x_if_ne 23 dX5_nextPlan_14 (by decide) (fun _ => ?_) (fun hc => absurd hc (nI_ne0 (by omega) (by omega)))
      exact x_wk K ⟨rfl, rfl, rfl, trivial⟩
set_option maxRecDepth 100000 in
set_option maxHeartbeats 4000000 in
theorem cM_nextPlan (d : Nat) (h : x_H) {sz ru si pm my pl lw ev bp bi nw ka iw : Int32} (hM : h 30 = x_md sz ru si pm my pl lw ev bp bi nw ka iw) {pf : Nat → Nat} (hP : h 40 = x_na 6 pf) (q : Nat) (hq6 : q ≤ 6) (hpf : ∀ j, j < 6 → pf j ≤ 9) : x_Ct d mX5_nextPlan [.ref 30, .int (nI q)] h (fun r h' => r = some (.int (b2I (decide (1 < lnz pf q)))) ∧ h' = x_up h 40 (x_na 6 (npP q pf))) := by
  have hl := lnz_le pf q
  have hnz := lnz_nz pf q
  refine x_enter pnX5_nextPlan (Nat.le_of_ble_eq_true rfl) ?_
  refine x_iload_n (i := 1) dX5_nextPlan_0 rfl rfl ?_
  refine x_iconst (v := 1) dX5_nextPlan_1 (by decide) ?_
  refine x_isub dX5_nextPlan_2 ?_
  refine x_istore_n (i := 2) dX5_nextPlan_3 rfl (by decide) ?_
  refine x_wk (cM_np_loop d h hM hP q hq6 hpf _ ?_ q (Nat.le_refl _) rfl) ⟨rfl, rfl, rfl, trivial⟩
  unfold npP
  generalize lnz pf q = l at hl hnz ⊢
  refine x_iload_n (i := 2) dX5_nextPlan_23 rfl rfl ?_
  by_cases h1 : 1 < l
  · obtain ⟨j, rfl⟩ : ∃ j, l = j + 2 := ⟨l - 2, by omega⟩
    have e1 : nI (j + 2) - 1 = nI (j + 1) := nI_s1 (j + 1)
    have e2 : nI (j + 1) - 1 = nI j := nI_s1 j
    have hj1 : pf (j + 1) ≠ 0 := hnz (by omega)
    have hj9 := hpf (j + 1) (by omega)
    have e3 : nI q - 1 = nI (q - 1) := pk_sub (b := 1) (by omega)
    have e4 : nI (pf (j + 1)) - 1 = nI (pf (j + 1) - 1) := pk_sub (b := 1) (by omega)
    rw [if_pos h1, decide_eq_true h1]
    rw [e1]
    refine x_if_gt 29 dX5_nextPlan_24 (by decide) (fun _ => ?_) (fun hc => absurd (by rw [show (0 : Int32) = nI 0 from rfl]; exact nI_lt (by omega) (by omega)) hc)
    refine x_aload_n (i := 0) dX5_nextPlan_29 rfl rfl ?_
    refine x_get flX5_38 dX5_nextPlan_30 (by first | decide | assumption) (by first | assumption | exact x_up_s | (refine (x_up_n (by first | decide | assumption)).trans ?_; first | assumption | exact x_up_s | (refine (x_up_n (by first | decide | assumption)).trans ?_; first | assumption | exact x_up_s | (refine (x_up_n (by first | decide | assumption)).trans ?_; first | assumption | exact x_up_s | (refine (x_up_n (by first | decide | assumption)).trans ?_; first | assumption | exact x_up_s | (refine (x_up_n (by first | decide | assumption)).trans ?_; first | assumption | exact x_up_s | (refine (x_up_n (by first | decide | assumption)).trans ?_; first | assumption | exact x_up_s | (refine (x_up_n (by first | decide | assumption)).trans ?_; first | assumption | exact x_up_s | (refine (x_up_n (by first | decide | assumption)).trans ?_; first | assumption | exact x_up_s | (refine (x_up_n (by first | decide | assumption)).trans ?_; first | assumption | exact x_up_s | (refine (x_up_n (by first | decide | assumption)).trans ?_; first | assumption | exact x_up_s | (refine (x_up_n (by first | decide | assumption)).trans ?_; first | assumption | exact x_up_s | (refine (x_up_n (by first | decide | assumption)).trans ?_; first | assumption | exact x_up_s | (refine (x_up_n (by first | decide | assumption)).trans ?_; first | assumption | exact x_up_s)))))))))))))) rfl ?_
    refine x_iload_n (i := 2) dX5_nextPlan_33 rfl rfl ?_
    refine x_iald (j + 1) dX5_nextPlan_34 (by first | decide | assumption) (by first | assumption | exact x_up_s | (refine (x_up_n (by first | decide | assumption)).trans ?_; first | assumption | exact x_up_s | (refine (x_up_n (by first | decide | assumption)).trans ?_; first | assumption | exact x_up_s | (refine (x_up_n (by first | decide | assumption)).trans ?_; first | assumption | exact x_up_s | (refine (x_up_n (by first | decide | assumption)).trans ?_; first | assumption | exact x_up_s | (refine (x_up_n (by first | decide | assumption)).trans ?_; first | assumption | exact x_up_s | (refine (x_up_n (by first | decide | assumption)).trans ?_; first | assumption | exact x_up_s | (refine (x_up_n (by first | decide | assumption)).trans ?_; first | assumption | exact x_up_s | (refine (x_up_n (by first | decide | assumption)).trans ?_; first | assumption | exact x_up_s | (refine (x_up_n (by first | decide | assumption)).trans ?_; first | assumption | exact x_up_s | (refine (x_up_n (by first | decide | assumption)).trans ?_; first | assumption | exact x_up_s | (refine (x_up_n (by first | decide | assumption)).trans ?_; first | assumption | exact x_up_s | (refine (x_up_n (by first | decide | assumption)).trans ?_; first | assumption | exact x_up_s | (refine (x_up_n (by first | decide | assumption)).trans ?_; first | assumption | exact x_up_s)))))))))))))) rfl (by omega) (by decide) ?_
    refine x_iconst (v := 1) dX5_nextPlan_35 (by decide) ?_
    refine x_isub dX5_nextPlan_36 ?_
    refine x_topi e4 ?_
    refine x_istore_n (i := 3) dX5_nextPlan_37 rfl (by decide) ?_
    refine x_aload_n (i := 0) dX5_nextPlan_38 rfl rfl ?_
    refine x_get flX5_38 dX5_nextPlan_39 (by first | decide | assumption) (by first | assumption | exact x_up_s | (refine (x_up_n (by first | decide | assumption)).trans ?_; first | assumption | exact x_up_s | (refine (x_up_n (by first | decide | assumption)).trans ?_; first | assumption | exact x_up_s | (refine (x_up_n (by first | decide | assumption)).trans ?_; first | assumption | exact x_up_s | (refine (x_up_n (by first | decide | assumption)).trans ?_; first | assumption | exact x_up_s | (refine (x_up_n (by first | decide | assumption)).trans ?_; first | assumption | exact x_up_s | (refine (x_up_n (by first | decide | assumption)).trans ?_; first | assumption | exact x_up_s | (refine (x_up_n (by first | decide | assumption)).trans ?_; first | assumption | exact x_up_s | (refine (x_up_n (by first | decide | assumption)).trans ?_; first | assumption | exact x_up_s | (refine (x_up_n (by first | decide | assumption)).trans ?_; first | assumption | exact x_up_s | (refine (x_up_n (by first | decide | assumption)).trans ?_; first | assumption | exact x_up_s | (refine (x_up_n (by first | decide | assumption)).trans ?_; first | assumption | exact x_up_s | (refine (x_up_n (by first | decide | assumption)).trans ?_; first | assumption | exact x_up_s | (refine (x_up_n (by first | decide | assumption)).trans ?_; first | assumption | exact x_up_s)))))))))))))) rfl ?_
    refine x_iload_n (i := 2) dX5_nextPlan_42 rfl rfl ?_
    refine x_iconst (v := 0) dX5_nextPlan_43 (by decide) ?_
    refine x_iast (j + 1) dX5_nextPlan_44 (by first | decide | assumption) (by first | assumption | exact x_up_s | (refine (x_up_n (by first | decide | assumption)).trans ?_; first | assumption | exact x_up_s | (refine (x_up_n (by first | decide | assumption)).trans ?_; first | assumption | exact x_up_s | (refine (x_up_n (by first | decide | assumption)).trans ?_; first | assumption | exact x_up_s | (refine (x_up_n (by first | decide | assumption)).trans ?_; first | assumption | exact x_up_s | (refine (x_up_n (by first | decide | assumption)).trans ?_; first | assumption | exact x_up_s | (refine (x_up_n (by first | decide | assumption)).trans ?_; first | assumption | exact x_up_s | (refine (x_up_n (by first | decide | assumption)).trans ?_; first | assumption | exact x_up_s | (refine (x_up_n (by first | decide | assumption)).trans ?_; first | assumption | exact x_up_s | (refine (x_up_n (by first | decide | assumption)).trans ?_; first | assumption | exact x_up_s | (refine (x_up_n (by first | decide | assumption)).trans ?_; first | assumption | exact x_up_s | (refine (x_up_n (by first | decide | assumption)).trans ?_; first | assumption | exact x_up_s | (refine (x_up_n (by first | decide | assumption)).trans ?_; first | assumption | exact x_up_s | (refine (x_up_n (by first | decide | assumption)).trans ?_; first | assumption | exact x_up_s)))))))))))))) rfl (by omega) (by decide) ?_
    rw [upd_0]
    refine x_aload_n (i := 0) dX5_nextPlan_45 rfl rfl ?_
    refine x_get flX5_38 dX5_nextPlan_46 (by first | decide | assumption) (by first | assumption | exact x_up_s | (refine (x_up_n (by first | decide | assumption)).trans ?_; first | assumption | exact x_up_s | (refine (x_up_n (by first | decide | assumption)).trans ?_; first | assumption | exact x_up_s | (refine (x_up_n (by first | decide | assumption)).trans ?_; first | assumption | exact x_up_s | (refine (x_up_n (by first | decide | assumption)).trans ?_; first | assumption | exact x_up_s | (refine (x_up_n (by first | decide | assumption)).trans ?_; first | assumption | exact x_up_s | (refine (x_up_n (by first | decide | assumption)).trans ?_; first | assumption | exact x_up_s | (refine (x_up_n (by first | decide | assumption)).trans ?_; first | assumption | exact x_up_s | (refine (x_up_n (by first | decide | assumption)).trans ?_; first | assumption | exact x_up_s | (refine (x_up_n (by first | decide | assumption)).trans ?_; first | assumption | exact x_up_s | (refine (x_up_n (by first | decide | assumption)).trans ?_; first | assumption | exact x_up_s | (refine (x_up_n (by first | decide | assumption)).trans ?_; first | assumption | exact x_up_s | (refine (x_up_n (by first | decide | assumption)).trans ?_; first | assumption | exact x_up_s | (refine (x_up_n (by first | decide | assumption)).trans ?_; first | assumption | exact x_up_s)))))))))))))) rfl ?_
    refine x_iload_n (i := 2) dX5_nextPlan_49 rfl rfl ?_
    refine x_iconst (v := 1) dX5_nextPlan_50 (by decide) ?_
    refine x_isub dX5_nextPlan_51 ?_
    rw [e2]
    refine x_dup2 dX5_nextPlan_52 rfl rfl ?_
    refine x_iald j dX5_nextPlan_53 (by first | decide | assumption) (by first | assumption | exact x_up_s | (refine (x_up_n (by first | decide | assumption)).trans ?_; first | assumption | exact x_up_s | (refine (x_up_n (by first | decide | assumption)).trans ?_; first | assumption | exact x_up_s | (refine (x_up_n (by first | decide | assumption)).trans ?_; first | assumption | exact x_up_s | (refine (x_up_n (by first | decide | assumption)).trans ?_; first | assumption | exact x_up_s | (refine (x_up_n (by first | decide | assumption)).trans ?_; first | assumption | exact x_up_s | (refine (x_up_n (by first | decide | assumption)).trans ?_; first | assumption | exact x_up_s | (refine (x_up_n (by first | decide | assumption)).trans ?_; first | assumption | exact x_up_s | (refine (x_up_n (by first | decide | assumption)).trans ?_; first | assumption | exact x_up_s | (refine (x_up_n (by first | decide | assumption)).trans ?_; first | assumption | exact x_up_s | (refine (x_up_n (by first | decide | assumption)).trans ?_; first | assumption | exact x_up_s | (refine (x_up_n (by first | decide | assumption)).trans ?_; first | assumption | exact x_up_s | (refine (x_up_n (by first | decide | assumption)).trans ?_; first | assumption | exact x_up_s | (refine (x_up_n (by first | decide | assumption)).trans ?_; first | assumption | exact x_up_s)))))))))))))) rfl (by omega) (by decide) ?_
    have e5 : csU pf (j + 1) 0 j = pf j := by unfold csU; rw [if_neg (by omega)]
    rw [e5]
    refine x_iconst (v := 1) dX5_nextPlan_54 (by decide) ?_
    refine x_iadd dX5_nextPlan_55 ?_
    refine x_topi (nI_1 (pf j)) ?_
    refine x_iast j dX5_nextPlan_56 (by first | decide | assumption) (by first | assumption | exact x_up_s | (refine (x_up_n (by first | decide | assumption)).trans ?_; first | assumption | exact x_up_s | (refine (x_up_n (by first | decide | assumption)).trans ?_; first | assumption | exact x_up_s | (refine (x_up_n (by first | decide | assumption)).trans ?_; first | assumption | exact x_up_s | (refine (x_up_n (by first | decide | assumption)).trans ?_; first | assumption | exact x_up_s | (refine (x_up_n (by first | decide | assumption)).trans ?_; first | assumption | exact x_up_s | (refine (x_up_n (by first | decide | assumption)).trans ?_; first | assumption | exact x_up_s | (refine (x_up_n (by first | decide | assumption)).trans ?_; first | assumption | exact x_up_s | (refine (x_up_n (by first | decide | assumption)).trans ?_; first | assumption | exact x_up_s | (refine (x_up_n (by first | decide | assumption)).trans ?_; first | assumption | exact x_up_s | (refine (x_up_n (by first | decide | assumption)).trans ?_; first | assumption | exact x_up_s | (refine (x_up_n (by first | decide | assumption)).trans ?_; first | assumption | exact x_up_s | (refine (x_up_n (by first | decide | assumption)).trans ?_; first | assumption | exact x_up_s | (refine (x_up_n (by first | decide | assumption)).trans ?_; first | assumption | exact x_up_s)))))))))))))) rfl (by omega) (by decide) ?_
    rw [csU_upd]
    refine x_aload_n (i := 0) dX5_nextPlan_57 rfl rfl ?_
    refine x_get flX5_38 dX5_nextPlan_58 (by first | decide | assumption) (by first | assumption | exact x_up_s | (refine (x_up_n (by first | decide | assumption)).trans ?_; first | assumption | exact x_up_s | (refine (x_up_n (by first | decide | assumption)).trans ?_; first | assumption | exact x_up_s | (refine (x_up_n (by first | decide | assumption)).trans ?_; first | assumption | exact x_up_s | (refine (x_up_n (by first | decide | assumption)).trans ?_; first | assumption | exact x_up_s | (refine (x_up_n (by first | decide | assumption)).trans ?_; first | assumption | exact x_up_s | (refine (x_up_n (by first | decide | assumption)).trans ?_; first | assumption | exact x_up_s | (refine (x_up_n (by first | decide | assumption)).trans ?_; first | assumption | exact x_up_s | (refine (x_up_n (by first | decide | assumption)).trans ?_; first | assumption | exact x_up_s | (refine (x_up_n (by first | decide | assumption)).trans ?_; first | assumption | exact x_up_s | (refine (x_up_n (by first | decide | assumption)).trans ?_; first | assumption | exact x_up_s | (refine (x_up_n (by first | decide | assumption)).trans ?_; first | assumption | exact x_up_s | (refine (x_up_n (by first | decide | assumption)).trans ?_; first | assumption | exact x_up_s | (refine (x_up_n (by first | decide | assumption)).trans ?_; first | assumption | exact x_up_s)))))))))))))) rfl ?_
    refine x_iload_n (i := 1) dX5_nextPlan_61 rfl rfl ?_
    refine x_iconst (v := 1) dX5_nextPlan_62 (by decide) ?_
    refine x_isub dX5_nextPlan_63 ?_
    refine x_topi e3 ?_
    refine x_iload_n (i := 3) dX5_nextPlan_64 rfl rfl ?_
    refine x_iast (q - 1) dX5_nextPlan_65 (by first | decide | assumption) (by first | assumption | exact x_up_s | (refine (x_up_n (by first | decide | assumption)).trans ?_; first | assumption | exact x_up_s | (refine (x_up_n (by first | decide | assumption)).trans ?_; first | assumption | exact x_up_s | (refine (x_up_n (by first | decide | assumption)).trans ?_; first | assumption | exact x_up_s | (refine (x_up_n (by first | decide | assumption)).trans ?_; first | assumption | exact x_up_s | (refine (x_up_n (by first | decide | assumption)).trans ?_; first | assumption | exact x_up_s | (refine (x_up_n (by first | decide | assumption)).trans ?_; first | assumption | exact x_up_s | (refine (x_up_n (by first | decide | assumption)).trans ?_; first | assumption | exact x_up_s | (refine (x_up_n (by first | decide | assumption)).trans ?_; first | assumption | exact x_up_s | (refine (x_up_n (by first | decide | assumption)).trans ?_; first | assumption | exact x_up_s | (refine (x_up_n (by first | decide | assumption)).trans ?_; first | assumption | exact x_up_s | (refine (x_up_n (by first | decide | assumption)).trans ?_; first | assumption | exact x_up_s | (refine (x_up_n (by first | decide | assumption)).trans ?_; first | assumption | exact x_up_s | (refine (x_up_n (by first | decide | assumption)).trans ?_; first | assumption | exact x_up_s)))))))))))))) rfl (by omega) (by decide) ?_
    rw [csU_upd]
    refine x_iconst (v := 1) dX5_nextPlan_66 (by decide) ?_
    refine x_zret dX5_nextPlan_67 rfl (by first | rfl | decide | assumption) ⟨rfl, ?_⟩
    unfold npF
    rw [show j + 2 - 1 = j + 1 by omega, show j + 1 - 1 = j by omega, x_up_up, x_up_up]
  · rw [if_neg h1, decide_eq_false h1]
    rw [x_up_eta hP]
    rcases (show l = 0 ∨ l = 1 by omega) with rfl | rfl
    · refine x_if_gt 29 dX5_nextPlan_24 (by decide) (fun hc => absurd hc (by decide)) (fun _ => ?_)
      refine x_iconst (v := 0) dX5_nextPlan_27 (by decide) ?_
      refine x_zret dX5_nextPlan_28 rfl (by first | rfl | decide | assumption) ⟨rfl, rfl⟩
    · refine x_if_gt 29 dX5_nextPlan_24 (by decide) (fun hc => absurd hc (by decide)) (fun _ => ?_)
      refine x_iconst (v := 0) dX5_nextPlan_27 (by decide) ?_
      refine x_zret dX5_nextPlan_28 rfl (by first | rfl | decide | assumption) ⟨rfl, rfl⟩
