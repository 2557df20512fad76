/-! missed, best -/
theorem mkS_at : ∀ (b : Bd) (Z : Nat → Nat) (j : Nat), mkS b Z j = if stB j b then 1 else Z j
  | [], Z, j => rfl
  | q :: b, Z, j => by
    have e : mkS (q :: b) Z = mkS b (csU Z q.2 1) := rfl
    have e2 : stB j (q :: b) = (q.2 == j || stB j b) := rfl
    rw [e, mkS_at b, e2]
    cases hb : stB j b with
    | true => rw [Bool.or_true, if_pos rfl, if_pos rfl]
    | false =>
      rw [Bool.or_false, if_neg (by decide)]
      unfold csU
      by_cases hj : j = q.2
      · rw [if_pos hj, if_pos (by rw [hj]; exact beq_self_eq_true _)]
      · rw [if_neg hj, if_neg (by rw [beq_iff_eq]; exact fun z => hj z.symm)]
/-- a crossing is missed -/
theorem un_gr {w L : Nat} {cs : Nat → Nat} {n : Nat} (hoc : okC n cs) (R0 Z0 : Nat → Nat) :
    ∀ (f i : Nat) (b : Bd) (m : Nat), i + f = n → b = (mR w L (dvF cs) i).map tg → (∀ j, m.testBit j = (decide (j < i) && msP (dvF cs) (grA w L (dvF cs) R0 Z0 i).2.2 j)) → ∀ j, (unA w L cs f i b m).1.testBit j = (decide (j < n) && msP (dvF cs) (grA w L (dvF cs) R0 Z0 n).2.2 j)
  | 0, i, b, m, hi, hb, hm, j => by
    have : i = n := by omega
    subst this
    exact hm j
  | f + 1, i, b, m, hi, hb, hm, j => by
    have hgb := grA_b w L (dvF cs) R0 Z0 i
    unfold unA
    rcases hoc i (by omega) with q | q
    · obtain ⟨e1, e2, e3⟩ := dv_cr q
      have h16 : dvF cs i < 16 := by unfold dvF; omega
      rw [e3, if_neg (by simp)]
      refine un_gr hoc R0 Z0 f (i + 1) _ _ (by omega) ?_ (fun z => ?_) j
      · rw [hb, bst_mst hoc (by omega)]; rfl
      · have eg : (grA w L (dvF cs) R0 Z0 (i + 1)).2.2 = csU (grA w L (dvF cs) R0 Z0 i).2.2 i 0 := by
          show (grS w L (dvF cs) i (grA w L (dvF cs) R0 Z0 i)).2.2 = _
          unfold grS
          rw [if_pos h16]
        rw [bit_or_pow, hm z, eg]
        unfold msP csU
        by_cases hz : z = i
        · subst hz
          rw [decide_eq_false (by omega), Bool.false_and, Bool.false_or, if_pos rfl, decide_eq_true rfl, decide_eq_true (by omega), decide_eq_true h16, decide_eq_true rfl]
          rfl
        · rw [if_neg hz, decide_eq_false (show ¬ i = z from fun y => hz y.symm), Bool.or_false]
          congr 1
          rw [decide_eq_decide]; omega
    · obtain ⟨e1, e2, e3, e4⟩ := dv_lk q
      have h16 : ¬ dvF cs i < 16 := by unfold dvF; omega
      rw [e2, if_pos (show (some (dvN (cs i) - 16)).isSome = true from rfl)]
      refine un_gr hoc R0 Z0 f (i + 1) _ _ (by omega) ?_ (fun z => ?_) j
      · rw [hb, mR_s, mst, if_neg h16]
      · have eg : (grA w L (dvF cs) R0 Z0 (i + 1)).2.2 = mkS (mR w L (dvF cs) i) (csU (grA w L (dvF cs) R0 Z0 i).2.2 i 0) := by
          show (grS w L (dvF cs) i (grA w L (dvF cs) R0 Z0 i)).2.2 = _
          unfold grS
          rw [if_neg h16, hgb]
        rw [andN_bit, hm z, eg, hb, wev_bit]
        unfold msP
        rw [mkS_at]
        by_cases hz : z = i
        · subst hz
          rw [decide_eq_false (by omega), Bool.false_and, Bool.false_and, decide_eq_false h16, Bool.false_and, Bool.and_false]
        · have ed : decide (z < i) = decide (z < i + 1) := by rw [decide_eq_decide]; omega
          have ec : csU (grA w L (dvF cs) R0 Z0 i).2.2 i 0 z = (grA w L (dvF cs) R0 Z0 i).2.2 z := by unfold csU; rw [if_neg hz]
          rw [ec, ed]
          cases hs : stB z (mR w L (dvF cs) i) with
          | true => rw [if_pos rfl]; simp
          | false => rw [if_neg (by decide)]; simp
theorem un_bit {w L : Nat} {cs : Nat → Nat} {n : Nat} (hoc : okC n cs) (R Z : Nat → Nat) (j : Nat) : (unR w L cs n).testBit j = (decide (j < n) && msP (dvF cs) (rdM n cs L w R Z).2.2 j) := by
  unfold unR rdM
  exact un_gr hoc (gr0 R) Z n 0 [] 0 (by omega) rfl (fun j => by rw [Nat.zero_testBit, decide_eq_false (by omega), Bool.false_and]) j
theorem pop_cnt {m n : Nat} {P : Nat → Bool} (hn : n ≤ 40) (h : ∀ j, m.testBit j = (decide (j < n) && P j)) : pop m = cntF P n 0 := by
  unfold pop
  obtain ⟨k, hk⟩ : ∃ k, 64 = n + k := ⟨64 - n, by omega⟩
  rw [hk, cntF_add, cntF_0 (p := fun j => m.testBit j) k (0 + n) (fun j h1 h2 => by rw [h j, decide_eq_false (by omega), Bool.false_and]), Nat.add_zero]
  exact cntF_cong n 0 (fun j _ h2 => by rw [h j, decide_eq_true (by omega), Bool.true_and])
theorem nth_eq {m : Nat} {P : Nat → Bool} {t : Int32} : ∀ (f e k : Nat), (∀ j, e ≤ j → j < e + f → m.testBit j = P j) → nthA m t f e k = nthP P t f e k
  | 0, _, _, _ => rfl
  | f + 1, e, k, h => by
    unfold nthA nthP
    rw [h e (Nat.le_refl _) (by omega), nth_eq f (e + 1) (k + 1) (fun j a b => h j (by omega) (by omega)), nth_eq f (e + 1) k (fun j a b => h j (by omega) (by omega))]
theorem q_missed (n : Nat) (cs : Nat → Nat) (L w : Nat) (R Z : Nat → Nat) (i : Int32) (hn : n ≤ 40) : aMissedM n cs L w R Z i = aMissed n cs L w i := by
  unfold aMissedM aMissed
  refine gd_c (fun hr => ?_)
  have hoc := okC_of hr (Nat.le_refl _)
  have hb := un_bit (w := w) (L := L) hoc R Z
  rw [pop_cnt hn hb, nth_eq (P := msP (dvF cs) (rdM n cs L w R Z).2.2) n 0 0 (fun j _ h2 => by rw [hb j, decide_eq_true (by omega), Bool.true_and])]
theorem un_pop {w L : Nat} {cs : Nat → Nat} {n : Nat} (hoc : okC n cs) (hn : n ≤ 40) (R Z : Nat → Nat) : cntF (msP (dvF cs) (rdM n cs L w R Z).2.2) n 0 = pop (unR w L cs n) := (pop_cnt hn (un_bit hoc R Z)).symm
theorem q_best (n : Nat) (cs : Nat → Nat) (w : Nat) (R Z : Nat → Nat) (what : Int32) (hn : n ≤ 40) : aBestM n cs w R Z what = aBest n cs w what := by
  unfold aBestM aBest rfW rfO
  by_cases hw : what = 0 ∨ what = 1
  · rw [if_pos hw, if_pos hw]
    refine gd_c (fun hr => ?_)
    have hoc := okC_of hr (Nat.le_refl _)
    have e : mnM (bsF n cs w R Z) 9 1 none = some (bsR w cs n) := by
      unfold bsR
      refine mnM_mnA0 _ _ 8 1 0 41 (fun j _ _ => un_pop hoc hn R Z) ?_
      rw [← un_pop hoc hn R Z]
      have := cntF_le (msP (dvF cs) (rdM n cs 1 w R Z).2.2) n 0
      omega
    rw [e]
    rfl
  · rw [if_neg hw, if_neg hw]
    rfl
