/-! the sights -/
theorem and0_iff (a x : Nat) : a &&& x = 0 ↔ ∀ i, a.testBit i = true → x.testBit i = false := by
  constructor
  · intro h i hi
    have : (a &&& x).testBit i = false := by rw [h, Nat.zero_testBit]
    rw [Nat.testBit_and, hi, Bool.true_and] at this
    exact this
  · intro h
    apply Nat.eq_of_testBit_eq
    intro i
    rw [Nat.testBit_and, Nat.zero_testBit]
    cases ha : a.testBit i with
    | false => rfl
    | true => rw [h i ha]; rfl
theorem andN0_iff (a x : Nat) : andN a x = 0 ↔ ∀ i, a.testBit i = true → x.testBit i = true := by
  constructor
  · intro h i hi
    have : (andN a x).testBit i = false := by rw [h, Nat.zero_testBit]
    rw [andN_bit, hi, Bool.true_and] at this
    cases hx : x.testBit i with
    | true => rfl
    | false => rw [hx] at this; cases this
  · intro h
    apply Nat.eq_of_testBit_eq
    intro i
    rw [andN_bit, Nat.zero_testBit]
    cases ha : a.testBit i with
    | false => rfl
    | true => rw [h i ha]; rfl
theorem and0_or (a p x : Nat) : (a ||| 2 ^ p) &&& x = 0 ↔ a &&& x = 0 ∧ x.testBit p = false := by
  rw [and0_iff, and0_iff]
  constructor
  · intro h
    exact ⟨fun i hi => h i (by rw [bit_or_pow, hi]; rfl), h p (by rw [bit_or_pow, decide_eq_true rfl, Bool.or_true])⟩
  · rintro ⟨h1, h2⟩ i hi
    rw [bit_or_pow, Bool.or_eq_true, decide_eq_true_eq] at hi
    rcases hi with hi | hi
    · exact h1 i hi
    · rw [← hi]; exact h2
theorem andN0_or (a p x : Nat) : andN (a ||| 2 ^ p) x = 0 ↔ andN a x = 0 ∧ x.testBit p = true := by
  rw [andN0_iff, andN0_iff]
  constructor
  · intro h
    exact ⟨fun i hi => h i (by rw [bit_or_pow, hi]; rfl), h p (by rw [bit_or_pow, decide_eq_true rfl, Bool.or_true])⟩
  · rintro ⟨h1, h2⟩ i hi
    rw [bit_or_pow, Bool.or_eq_true, decide_eq_true_eq] at hi
    rcases hi with hi | hi
    · exact h1 i hi
    · rw [← hi]; exact h2
def sgX (se sp ss : Nat → Nat) (x j k : Nat) : Bool := !(se k == j) || (x.testBit (sp k) == (ss k == 1))
theorem sp_fit {n : Nat} {se sp ss : Nat → Nat} (hss : ∀ k, ss k ≤ 1) {x j : Nat} (hj : j ≤ n) : ∀ (r k : Nat) (W U : Nat → Nat) (l : Nat),
    (andN ((spA n se sp ss r k W U l).1 j) x = 0 ∧ (spA n se sp ss r k W U l).2.1 j &&& x = 0) ↔ ((andN (W j) x = 0 ∧ U j &&& x = 0) ∧ allF (sgX se sp ss x j) r k = true)
  | 0, k, W, U, l => ⟨fun h => ⟨h, rfl⟩, fun h => h.1⟩
  | r + 1, k, W, U, l => by
    unfold spA allF
    by_cases hn : se k ≤ n
    · rw [if_pos hn]
      by_cases hs : ss k = 0
      · rw [if_pos hs, sp_fit hss hj r (k + 1), Bool.and_eq_true]
        by_cases hjk : j = se k
        · subst hjk
          rw [csU_s, and0_or]
          have e : sgX se sp ss x (se k) k = !x.testBit (sp k) := by
            unfold sgX
            rw [hs, beq_self_eq_true]
            cases x.testBit (sp k) <;> rfl
          rw [e, Bool.not_eq_true']
          exact ⟨fun ⟨⟨a, b, c⟩, d⟩ => ⟨⟨a, b⟩, c, d⟩, fun ⟨⟨a, b⟩, c, d⟩ => ⟨⟨a, b, c⟩, d⟩⟩
        · rw [csU_n hjk]
          have e : sgX se sp ss x j k = true := by
            unfold sgX
            rw [beq_eq_false_iff_ne.mpr (fun z => hjk z.symm)]; rfl
          rw [e]
          exact ⟨fun ⟨a, d⟩ => ⟨a, rfl, d⟩, fun ⟨a, _, d⟩ => ⟨a, d⟩⟩
      · rw [if_neg hs, sp_fit hss hj r (k + 1), Bool.and_eq_true]
        by_cases hjk : j = se k
        · subst hjk
          rw [csU_s, andN0_or]
          have e : sgX se sp ss x (se k) k = x.testBit (sp k) := by
            unfold sgX
            have : ss k = 1 := by have := hss k; omega
            rw [this, beq_self_eq_true]
            cases x.testBit (sp k) <;> rfl
          rw [e]
          exact ⟨fun ⟨⟨⟨a, c⟩, b⟩, d⟩ => ⟨⟨a, b⟩, c, d⟩, fun ⟨⟨a, b⟩, c, d⟩ => ⟨⟨⟨a, c⟩, b⟩, d⟩⟩
        · rw [csU_n hjk]
          have e : sgX se sp ss x j k = true := by
            unfold sgX
            rw [beq_eq_false_iff_ne.mpr (fun z => hjk z.symm)]; rfl
          rw [e]
          exact ⟨fun ⟨a, d⟩ => ⟨a, rfl, d⟩, fun ⟨a, _, d⟩ => ⟨a, d⟩⟩
    · rw [if_neg hn, sp_fit hss hj r (k + 1), Bool.and_eq_true]
      have e : sgX se sp ss x j k = true := by
        unfold sgX
        rw [beq_eq_false_iff_ne.mpr (fun z => by omega)]; rfl
      rw [e]
      exact ⟨fun ⟨a, d⟩ => ⟨a, rfl, d⟩, fun ⟨a, _, d⟩ => ⟨a, d⟩⟩
theorem sp_last {n : Nat} {se sp ss : Nat → Nat} : ∀ (r k : Nat) (W U : Nat → Nat) (l : Nat), l ≤ (spA n se sp ss r k W U l).2.2 ∧ ∀ j, (spA n se sp ss r k W U l).2.2 < j → (spA n se sp ss r k W U l).1 j = W j ∧ (spA n se sp ss r k W U l).2.1 j = U j
  | 0, k, W, U, l => ⟨Nat.le_refl _, fun _ _ => ⟨rfl, rfl⟩⟩
  | r + 1, k, W, U, l => by
    unfold spA
    split
    · split
      · have ih := sp_last (n := n) (se := se) (sp := sp) (ss := ss) r (k + 1) W (csU U (se k) (U (se k) ||| 2 ^ sp k)) (max l (se k))
        refine ⟨by omega, fun j hj => ?_⟩
        have h1 := ih.2 j hj
        rw [csU_n (show j ≠ se k by omega)] at h1
        exact h1
      · have ih := sp_last (n := n) (se := se) (sp := sp) (ss := ss) r (k + 1) (csU W (se k) (W (se k) ||| 2 ^ sp k)) U (max l (se k))
        refine ⟨by omega, fun j hj => ?_⟩
        have h1 := ih.2 j hj
        rw [csU_n (show j ≠ se k by omega)] at h1
        exact h1
    · exact sp_last r (k + 1) W U l
theorem allF_c {p q : Nat → Bool} : ∀ (f i : Nat), (∀ j, i ≤ j → j < i + f → p j = q j) → allF p f i = allF q f i
  | 0, _, _ => rfl
  | f + 1, i, h => by
    unfold allF
    rw [h i (Nat.le_refl _) (by omega), allF_c f (i + 1) (fun j a b => h j (by omega) (by omega))]
/-- class and model have the same setting, as far as it counts -/
def SE (S T : Sg) : Prop := S.1 = T.1 ∧ S.2.1 = T.2.1 ∧ S.2.2.1 = T.2.2.1 ∧ ∀ k, k < S.2.2.1 → S.2.2.2.1 k = T.2.2.2.1 k ∧ S.2.2.2.2.1 k = T.2.2.2.2.1 k ∧ S.2.2.2.2.2 k = T.2.2.2.2.2 k
theorem hbh_fit {n : Nat} {S T : Sg} (hn : n ≤ 40) (hok : okSg S) (hSE : SE S T) {W0 U0 : Nat → Nat} {j : Nat} (hj : j ≤ n) (b : Bd) :
    hbh (spR n S.2.2.1 S.2.2.2.1 S.2.2.2.2.1 S.2.2.2.2.2 W0 U0).1 (spR n S.2.2.1 S.2.2.2.1 S.2.2.2.2.1 S.2.2.2.2.2 W0 U0).2.1 j b = fitB T (ppl b) j := by
  unfold hbh spR fitB
  have hz : ∀ f, zer f j = 0 := fun f => by unfold zer mixN; rw [if_pos (by omega)]
  have h := sp_fit (n := n) (se := S.2.2.2.1) (sp := S.2.2.2.2.1) (ss := S.2.2.2.2.2) hok.2.2.2.2.2.2 (x := ppl b) hj S.2.2.1 0 (zer W0) (zer U0) 0
  rw [hz, hz] at h
  have e : allF (sgK T (ppl b) j) T.2.2.1 0 = allF (sgX S.2.2.2.1 S.2.2.2.2.1 S.2.2.2.2.2 (ppl b) j) S.2.2.1 0 := by
    rw [← hSE.2.2.1]
    refine allF_c _ _ (fun k _ hk => ?_)
    obtain ⟨e1, e2, e3⟩ := hSE.2.2.2 k (by omega)
    unfold sgK sgX
    rw [e1, e2, e3]
  rw [e, Bool.eq_iff_iff, Bool.and_eq_true, decide_eq_true_eq, decide_eq_true_eq, h]
  have e0 : andN 0 (ppl b) = 0 ∧ 0 &&& ppl b = 0 := ⟨by unfold andN; simp, by simp⟩
  exact ⟨fun q => q.2, fun q => ⟨e0, q⟩⟩
theorem sgt_last {n : Nat} {S : Sg} {W0 U0 : Nat → Nat} {j : Nat} (hj : (spR n S.2.2.1 S.2.2.2.1 S.2.2.2.2.1 S.2.2.2.2.2 W0 U0).2.2 < j) (h40 : j ≤ 40) :
    sgt (spR n S.2.2.1 S.2.2.2.1 S.2.2.2.2.1 S.2.2.2.2.2 W0 U0).1 (spR n S.2.2.1 S.2.2.2.1 S.2.2.2.2.1 S.2.2.2.2.2 W0 U0).2.1 j = false := by
  have hz : ∀ f, zer f j = 0 := fun f => by unfold zer mixN; rw [if_pos (by omega)]
  have := (sp_last (n := n) (se := S.2.2.2.1) (sp := S.2.2.2.2.1) (ss := S.2.2.2.2.2) S.2.2.1 0 (zer W0) (zer U0) 0).2 j hj
  rw [hz, hz] at this
  unfold sgt spR
  rw [this.1, this.2]
  rfl
theorem sgt_no {W U : Nat → Nat} {j : Nat} (h : sgt W U j = false) (b : Bd) : hbh W U j b = true := by
  unfold sgt at h
  have h0 : W j ||| U j = 0 := by
    rw [decide_eq_false_iff_not] at h
    exact Decidable.not_not.mp h
  have hW : W j = 0 := by
    have : W j ≤ W j ||| U j := Nat.left_le_or
    omega
  have hU : U j = 0 := by
    have : U j ≤ W j ||| U j := Nat.right_le_or
    omega
  unfold hbh
  rw [hW, hU]
  have e0 : andN 0 (ppl b) = 0 ∧ 0 &&& ppl b = 0 := ⟨by unfold andN; simp, by simp⟩
  rw [decide_eq_true e0.1, decide_eq_true e0.2]
  rfl
/-! what keepTold keeps -/
def preC (W U : Nat → Nat) (C : Nat → Nat × Nat) (i : Nat) : Nat × Nat := if sgt W U (i + 1) then (0, 0) else C (i + 1)
def ktOk (n : Nat) (cs : Nat → Nat) (w L : Nat) (W U : Nat → Nat) (C : Nat → Nat × Nat) (T : Nat → Option Nat) (i : Nat) : Prop :=
  match crN (cd n cs (nI i)) with
  | none => C i = preC W U C i ∧ T i = none
  | some p => C i = ((preC W U C i).1 + 1, (preC W U C i).2 ||| 2 ^ p) ∧ T i = if (if w = 1 then !((preC W U C i).2.testBit p) else decide ((preC W U C i).1 < L)) = true then some p else none
def cxU (C : Nat → Nat × Nat) (k : Nat) (v : Nat × Nat) : Nat → Nat × Nat := fun j => if j = k then v else C j
theorem cxU_s {C : Nat → Nat × Nat} {k : Nat} {v : Nat × Nat} : cxU C k v k = v := by unfold cxU; rw [if_pos rfl]
theorem cxU_n {C : Nat → Nat × Nat} {k j : Nat} {v : Nat × Nat} (h : j ≠ k) : cxU C k v j = C j := by unfold cxU; rw [if_neg h]
theorem kt_ok {n : Nat} {cs : Nat → Nat} {w L : Nat} {W U : Nat → Nat} : ∀ (k lt lp : Nat) (T : Nat → Option Nat), ∃ C : Nat → Nat × Nat, C k = (lt, lp) ∧ (∀ i, i < k → ktOk n cs w L W U C (ktA n cs w L W U k lt lp T) i) ∧ ∀ j, k ≤ j → ktA n cs w L W U k lt lp T j = T j
  | 0, lt, lp, T => ⟨fun _ => (lt, lp), rfl, fun i hi => absurd hi (Nat.not_lt_zero _), fun _ _ => rfl⟩
  | k + 1, lt, lp, T => by
    have step : ∀ (lt' lp' : Nat) (v : Option Nat), ktA n cs w L W U (k + 1) lt lp T = ktA n cs w L W U k lt' lp' (oU T k v) →
        (match crN (cd n cs (nI k)) with
          | none => (lt', lp') = (if sgt W U (k + 1) then (0, 0) else (lt, lp)) ∧ v = none
          | some p => (lt', lp') = ((if sgt W U (k + 1) then (0, 0) else (lt, lp)).1 + 1, (if sgt W U (k + 1) then (0, 0) else (lt, lp)).2 ||| 2 ^ p) ∧ v = if (if w = 1 then !((if sgt W U (k + 1) then (0, 0) else (lt, lp)).2.testBit p) else decide ((if sgt W U (k + 1) then (0, 0) else (lt, lp)).1 < L)) = true then some p else none) →
        ∃ C : Nat → Nat × Nat, C (k + 1) = (lt, lp) ∧ (∀ i, i < k + 1 → ktOk n cs w L W U C (ktA n cs w L W U (k + 1) lt lp T) i) ∧ ∀ j, k + 1 ≤ j → ktA n cs w L W U (k + 1) lt lp T j = T j := by
      intro lt' lp' v he hv
      rw [he]
      obtain ⟨C, c1, c2, c3⟩ := kt_ok (n := n) (cs := cs) (w := w) (L := L) (W := W) (U := U) k lt' lp' (oU T k v)
      refine ⟨cxU C (k + 1) (lt, lp), cxU_s, fun i hi => ?_, fun j hj => ?_⟩
      · by_cases hik : i = k
        · subst hik
          have e1 : preC W U (cxU C (i + 1) (lt, lp)) i = (if sgt W U (i + 1) then (0, 0) else (lt, lp)) := by
            unfold preC
            rw [cxU_s]
          have e2 : ktA n cs w L W U i lt' lp' (oU T i v) i = v := by
            rw [c3 i (Nat.le_refl _)]
            unfold oU
            rw [if_pos rfl]
          unfold ktOk
          rw [e1, e2, cxU_n (show i ≠ i + 1 by omega), c1]
          exact hv
        · have h1 := c2 i (by omega)
          have e1 : preC W U (cxU C (k + 1) (lt, lp)) i = preC W U C i := by
            unfold preC
            rw [cxU_n (show i + 1 ≠ k + 1 by omega)]
          unfold ktOk at h1 ⊢
          rw [e1, cxU_n (show i ≠ k + 1 by omega)]
          exact h1
      · rw [c3 j (by omega)]
        unfold oU
        rw [if_neg (by omega)]
    cases hc : crN (cd n cs (nI k)) with
    | none =>
      refine step (if sgt W U (k + 1) then 0 else lt) (if sgt W U (k + 1) then 0 else lp) none (by rw [ktA]; simp only [hc]) ?_
      rw [hc]
      refine ⟨?_, rfl⟩
      split <;> rfl
    | some p =>
      refine step ((if sgt W U (k + 1) then 0 else lt) + 1) ((if sgt W U (k + 1) then 0 else lp) ||| 2 ^ p) (if (if w = 1 then !((if sgt W U (k + 1) then 0 else lp).testBit p) else decide ((if sgt W U (k + 1) then 0 else lt) < L)) = true then some p else none) (by rw [ktA]; simp only [hc]) ?_
      rw [hc]
      refine ⟨?_, ?_⟩
      · cases sgt W U (k + 1) <;> rfl
      · cases sgt W U (k + 1) <;> rfl
theorem cd_at {n : Nat} {cs : Nat → Nat} {i : Nat} (hi : i < 40) : cd n cs (nI i) = if i < n then cs i else 0 := by
  unfold cd
  rw [nI_toInt (by omega)]
  by_cases h : i < n
  · rw [if_pos ⟨by omega, by omega⟩, if_pos h]; rfl
  · rw [if_neg (by omega), if_neg h]
