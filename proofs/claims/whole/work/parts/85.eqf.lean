/-! the fewest looks more -/
def exL (w L : Nat) (dv : Nat → Nat) (set : Nat) : Nat → Nat → Bool
  | 0, _ => false
  | i + 1, j => exL w L dv set i j || (cuP dv i && (set.testBit (cntF (cuP dv) i 0) && stB j (mR w L dv (i + 1))))
theorem exL_ge {w L : Nat} {dv : Nat → Nat} {set : Nat} : ∀ i j, i ≤ j → exL w L dv set i j = false
  | 0, _, _ => rfl
  | i + 1, j, h => by
    unfold exL
    rw [exL_ge i j (by omega), stB_ge (by omega), Bool.and_false, Bool.and_false, Bool.or_false]
theorem sa_cr {w L : Nat} {dv : Nat → Nat} {set i : Nat} {Z0 : Nat → Nat} (h : dv i < 16) : (saA w L dv set Z0 (i + 1)).2.2 = if set.testBit (cntF (cuP dv) i 0) then mkS (mR w L dv (i + 1)) (csU (saA w L dv set Z0 i).2.2 i 0) else csU (saA w L dv set Z0 i).2.2 i 0 := by
  show (saS w L dv set i (saA w L dv set Z0 i)).2.2 = _
  unfold saS
  rw [if_pos h, saA_b, saA_k, mR_s, mst, if_pos h]
theorem sa_lk {w L : Nat} {dv : Nat → Nat} {set i : Nat} {Z0 : Nat → Nat} (h : ¬ dv i < 16) : (saA w L dv set Z0 (i + 1)).2.2 = mkS (mR w L dv i) (csU (saA w L dv set Z0 i).2.2 i 0) := by
  show (saS w L dv set i (saA w L dv set Z0 i)).2.2 = _
  unfold saS
  rw [if_neg h, saA_b]
theorem if_mk0 {c : Bool} {b : Bd} {Z : Nat → Nat} {j : Nat} : decide ((if c then mkS b Z else Z) j = 0) = (decide (Z j = 0) && !(c && stB j b)) := by
  cases c with
  | true => rw [if_pos rfl, mkS_at, if_and0, Bool.true_and]
  | false => rw [if_neg (by decide)]; simp
theorem sa_gr {w L : Nat} {dv : Nat → Nat} {set : Nat} {R0 Z0 Z1 : Nat → Nat} : ∀ i j, j < i → msP dv (saA w L dv set Z1 i).2.2 j = (msP dv (grA w L dv R0 Z0 i).2.2 j && !exL w L dv set i j)
  | 0, j, hj => by omega
  | i + 1, j, hj => by
    by_cases h : dv i < 16
    · rw [sa_cr h, gr_cr h]
      unfold exL
      rw [show cuP dv i = true by unfold cuP; exact decide_eq_true h, Bool.true_and]
      by_cases hji : j = i
      · subst hji
        unfold msP
        rw [if_mk0, csU_s, csU_s, exL_ge j j (Nat.le_refl _), Bool.false_or, Bool.and_assoc]
      · have ih := sa_gr (w := w) (L := L) (dv := dv) (set := set) (R0 := R0) (Z0 := Z0) (Z1 := Z1) i j (by omega)
        unfold msP at ih ⊢
        rw [if_mk0, csU_n hji, csU_n hji, ← Bool.and_assoc, ih, Bool.not_or, ← Bool.and_assoc]
    · rw [sa_lk h, gr_lk h]
      unfold exL
      rw [show cuP dv i = false by unfold cuP; exact decide_eq_false h, Bool.false_and, Bool.or_false]
      by_cases hji : j = i
      · subst hji
        unfold msP
        rw [decide_eq_false h, Bool.false_and, Bool.false_and, Bool.false_and]
      · have ih := sa_gr (w := w) (L := L) (dv := dv) (set := set) (R0 := R0) (Z0 := Z0) (Z1 := Z1) i j (by omega)
        unfold msP at ih ⊢
        rw [mkS_at, mkS_at, if_and0, if_and0, csU_n hji, csU_n hji, ← Bool.and_assoc, ih]
        cases decide (dv j < 16) <;> cases decide ((grA w L dv R0 Z0 i).2.2 j = 0) <;> cases stB j (mR w L dv i) <;> cases exL w L dv set i j <;> rfl
theorem cntF_pos {P : Nat → Bool} : ∀ (f i : Nat), cntF P f i = 0 ↔ ∀ j, i ≤ j → j < i + f → P j = false
  | 0, i => ⟨fun _ j h1 h2 => by omega, fun _ => rfl⟩
  | f + 1, i => by
    have ih := cntF_pos (P := P) f (i + 1)
    constructor
    · intro h j h1 h2
      unfold cntF at h
      by_cases hj : j = i
      · subst hj
        cases hp : P j with
        | false => rfl
        | true => rw [hp, if_pos rfl] at h; omega
      · exact ih.mp (by omega) j (by omega) (by omega)
    · intro h
      unfold cntF
      rw [h i (Nat.le_refl _) (by omega), ih.mpr (fun j h1 h2 => h j (by omega) (by omega))]
      rfl
/-- the model's test -/
theorem saP_iff {w L : Nat} {cs : Nat → Nat} {n : Nat} {Z : Nat → Nat} {set : Nat} (hoc : okC n cs) : saP n cs L w Z set = true ↔ ∀ j, (unR w L cs n).testBit j = true → exL w L (dvF cs) set n j = true := by
  unfold saP
  rw [decide_eq_true_eq, cntF_pos]
  have hb := un_bit (w := w) (L := L) hoc (fun _ => 0) Z
  constructor
  · intro h j hj
    rw [hb j, Bool.and_eq_true, decide_eq_true_eq] at hj
    have h1 := h j (Nat.zero_le _) (by omega)
    rw [sa_gr (R0 := gr0 (fun _ => 0)) (Z0 := Z) n j hj.1] at h1
    have h2 := hj.2
    unfold rdM at h2
    rw [h2, Bool.true_and] at h1
    cases he : exL w L (dvF cs) set n j with
    | true => rfl
    | false => rw [he] at h1; cases h1
  · intro h j _ hj
    rw [sa_gr (R0 := gr0 (fun _ => 0)) (Z0 := Z) n j (by omega)]
    cases hm : msP (dvF cs) (grA w L (dvF cs) (gr0 fun _ => 0) Z n).2.2 j with
    | false => rfl
    | true =>
      have := h j (by rw [hb j, decide_eq_true (by omega), Bool.true_and]; exact hm)
      rw [this]; rfl
theorem cr_cu {cs : Nat → Nat} {n : Nat} (hoc : okC n cs) {j : Nat} (hj : j < n) : crP cs j = cuP (dvF cs) j := by
  unfold crP cuP dvF
  rcases hoc j hj with q | q
  · obtain ⟨e1, e2, -⟩ := dv_cr q
    rw [e1, decide_eq_true (by omega)]; rfl
  · obtain ⟨e1, -, e2, -⟩ := dv_lk q
    rw [e1, decide_eq_false (by omega)]; rfl
theorem crC_cu {cs : Nat → Nat} {n : Nat} (hoc : okC n cs) {i : Nat} (hi : i ≤ n) : cntF (crP cs) i 0 = cntF (cuP (dvF cs)) i 0 := cntF_cong i 0 (fun j _ hj => cr_cu hoc (by omega))
theorem mk_old {w L : Nat} {cs : Nat → Nat} : ∀ (f i k : Nat) (b : Bd) (g : Nat → Int64) (z : Nat), z < k → (mkA w L cs f i k b g).2 z = g z
  | 0, _, _, _, _, _, _ => rfl
  | f + 1, i, k, b, g, z, h => by
    unfold mkA
    dsimp only
    split
    · rw [mk_old f (i + 1) (k + 1) _ _ z (by omega)]
      unfold vp_updL
      rw [if_neg (by omega)]
    · exact mk_old f (i + 1) k _ _ z h
theorem mk_new {w L : Nat} {cs : Nat → Nat} {n : Nat} (h12 : cntF (crP cs) n 0 ≤ 12) : ∀ (f i : Nat) (g : Nat → Int64), i + f = n → ∀ z, i ≤ z → z < n → crP cs z = true → (mkA w L cs f i (cntF (crP cs) i 0) (bdR w L cs i) g).2 (cntF (crP cs) z 0) = lN (wev (bdR w L cs (z + 1)))
  | 0, i, g, hi, z, h1, h2, _ => by omega
  | f + 1, i, g, hi, z, h1, h2, hz => by
    have hsn := cntF_snoc (crP cs) i 0
    rw [Nat.zero_add] at hsn
    have hle : cntF (crP cs) (i + 1) 0 ≤ cntF (crP cs) n 0 := cntF_mono (by omega)
    unfold mkA
    dsimp only
    rw [show bst w L cs i (bdR w L cs i) = bdR w L cs (i + 1) from rfl]
    by_cases hc : crP cs i = true
    · rw [hc, if_pos rfl] at hsn
      rw [if_pos ⟨hc, by omega⟩, ← hsn]
      by_cases hzi : z = i
      · subst hzi
        rw [mk_old _ _ _ _ _ _ (by omega)]
        unfold vp_updL
        rw [if_pos rfl]
      · exact mk_new h12 f (i + 1) _ (by omega) z (by omega) h2 hz
    · rw [if_neg hc] at hsn
      have hsn2 : cntF (crP cs) (i + 1) 0 = cntF (crP cs) i 0 := by omega
      rw [if_neg (fun q => hc q.1), ← hsn2]
      have hzi : z ≠ i := fun q => hc (q ▸ hz)
      exact mk_new h12 f (i + 1) _ (by omega) z (by omega) h2 hz
theorem anyF_snoc {P : Nat → Bool} : ∀ (f i : Nat), anyF P (f + 1) i = (anyF P f i || P (i + f))
  | 0, i => by show (P i || false) = (false || P (i + 0)); rw [Bool.or_false, Bool.false_or, Nat.add_zero]
  | f + 1, i => by
    rw [anyF, anyF_snoc f (i + 1), anyF, Bool.or_assoc, show i + 1 + f = i + (f + 1) by omega]
theorem rb_bit {g : Nat → Int64} {G : Nat → Nat} {bits : Nat} : ∀ (f k x : Nat), (∀ z, k ≤ z → z < k + f → g z = lN (G z)) → ∃ y, rbA g bits f k (lN x) = lN y ∧ ∀ j, y.testBit j = (x.testBit j || anyF (fun z => bits.testBit z && (G z).testBit j) f k)
  | 0, k, x, _ => ⟨x, rfl, fun j => by show _ = (_ || false); rw [Bool.or_false]⟩
  | f + 1, k, x, h => by
    unfold rbA
    rw [h k (Nat.le_refl _) (by omega)]
    cases hb : bits.testBit k with
    | true =>
      rw [if_pos rfl, l_or]
      obtain ⟨y, e, hy⟩ := rb_bit (bits := bits) f (k + 1) (x ||| G k) (fun z a b => h z (by omega) (by omega))
      refine ⟨y, e, fun j => ?_⟩
      rw [hy j, Nat.testBit_or, anyF, hb, Bool.true_and, Bool.or_assoc]
    | false =>
      rw [if_neg (by decide)]
      obtain ⟨y, e, hy⟩ := rb_bit (bits := bits) f (k + 1) x (fun z a b => h z (by omega) (by omega))
      refine ⟨y, e, fun j => ?_⟩
      rw [hy j, anyF, hb, Bool.false_and, Bool.false_or]
theorem ex_any {w L : Nat} {cs : Nat → Nat} {n bits j : Nat} {G : Nat → Nat} (hoc : okC n cs) (hG : ∀ z, z < n → crP cs z = true → G (cntF (crP cs) z 0) = wev (bdR w L cs (z + 1))) : ∀ i, i ≤ n → anyF (fun z => bits.testBit z && (G z).testBit j) (cntF (crP cs) i 0) 0 = exL w L (dvF cs) bits i j
  | 0, _ => rfl
  | i + 1, hi => by
    have hsn := cntF_snoc (crP cs) i 0
    rw [Nat.zero_add] at hsn
    unfold exL
    rw [← ex_any hoc hG i (by omega), ← cr_cu hoc (by omega), ← crC_cu hoc (by omega), hsn]
    by_cases hc : crP cs i = true
    · rw [hc, if_pos rfl, anyF_snoc, Nat.zero_add, hG i (by omega) hc, bdR_mR hoc (i + 1) (by omega), wev_bit, Bool.true_and]
    · rw [if_neg hc, Nat.add_zero, Bool.not_eq_true _ |>.mp hc, Bool.false_and, Bool.or_false]
theorem un_lt {w L : Nat} {cs : Nat → Nat} {n : Nat} (hoc : okC n cs) (hn : n ≤ 40) : unR w L cs n < 2 ^ 40 := by
  apply Nat.lt_of_not_le
  intro hge
  obtain ⟨i, h1, h2⟩ := Nat.exists_ge_and_testBit_of_ge_two_pow hge
  rw [un_bit hoc (fun _ => 0) (fun _ => 0), Bool.and_eq_true, decide_eq_true_eq] at h2
  omega
theorem and_le {m k : Nat} : andN m k ≤ m := by
  refine Nat.le_of_testBit ?_
  intro i hi
  rw [andN_bit, Bool.and_eq_true] at hi
  exact hi.1
/-- the class's test -/
theorem flOk_iff {w L : Nat} {cs : Nat → Nat} {n bits : Nat} {g : Nat → Int64} (hoc : okC n cs) (hn : n ≤ 40) (h12 : crC n cs ≤ 12) : flOk (mkA w L cs n 0 0 [] g).2 (unR w L cs n) (crC n cs) bits = true ↔ ∀ j, (unR w L cs n).testBit j = true → exL w L (dvF cs) bits n j = true := by
  unfold crC at h12 ⊢
  have hg := mk_new (w := w) (L := L) h12 n 0 g (by omega)
  have hcov : ∃ G : Nat → Nat, (∀ z, z < n → crP cs z = true → G (cntF (crP cs) z 0) = wev (bdR w L cs (z + 1))) ∧ ∀ k, k < cntF (crP cs) n 0 → (mkA w L cs n 0 0 [] g).2 k = lN (G k) := by
    have hx : ∀ k, k < cntF (crP cs) n 0 → ∃ z, z < n ∧ crP cs z = true ∧ cntF (crP cs) z 0 = k := by
      intro k
      have : ∀ i, i ≤ n → k < cntF (crP cs) i 0 → ∃ z, z < i ∧ crP cs z = true ∧ cntF (crP cs) z 0 = k := by
        intro i
        induction i with
        | zero => intro _ h; unfold cntF at h; omega
        | succ i ih =>
          intro hi hk
          have hsn := cntF_snoc (crP cs) i 0
          rw [Nat.zero_add] at hsn
          by_cases hlt : k < cntF (crP cs) i 0
          · obtain ⟨z, a, b, c⟩ := ih (by omega) hlt
            exact ⟨z, by omega, b, c⟩
          · by_cases hc : crP cs i = true
            · rw [if_pos hc] at hsn
              exact ⟨i, by omega, hc, by omega⟩
            · rw [if_neg hc] at hsn
              omega
      exact this n (Nat.le_refl _)
    refine ⟨fun k => if h : ∃ z, z < n ∧ crP cs z = true ∧ cntF (crP cs) z 0 = k then wev (bdR w L cs (h.choose + 1)) else 0, ?_, ?_⟩
    · intro z hz hc
      have he : ∃ z', z' < n ∧ crP cs z' = true ∧ cntF (crP cs) z' 0 = cntF (crP cs) z 0 := ⟨z, hz, hc, rfl⟩
      show (if h : _ then _ else _) = _
      rw [dif_pos he]
      obtain ⟨h1, h2, h3⟩ := he.choose_spec
      generalize he.choose = y at h1 h2 h3
      have hyz : y = z := by
        have mono : ∀ a b, a < b → b ≤ n → crP cs a = true → cntF (crP cs) a 0 < cntF (crP cs) b 0 := by
          intro a b hab _ ha
          have hsn := cntF_snoc (crP cs) a 0
          rw [Nat.zero_add, if_pos ha] at hsn
          have := cntF_mono (p := crP cs) (show a + 1 ≤ b by omega)
          omega
        rcases Nat.lt_trichotomy y z with q | q | q
        · have := mono y z q (by omega) h2; omega
        · exact q
        · have := mono z y q (by omega) hc; omega
      rw [hyz]
    · intro k hk
      have he := hx k hk
      show _ = lN (if h : _ then _ else _)
      rw [dif_pos he]
      obtain ⟨h1, h2, h3⟩ := he.choose_spec
      generalize he.choose = y at h1 h2 h3
      rw [← h3]
      exact hg y (Nat.zero_le _) h1 h2
  obtain ⟨G, hG, hg2⟩ := hcov
  obtain ⟨y, e, hy⟩ := rb_bit (bits := bits) (cntF (crP cs) n 0) 0 0 (fun z _ h2 => hg2 z (by omega))
  unfold flOk
  rw [show (0 : Int64) = lN 0 from rfl, e, l_andN, decide_eq_true_eq]
  have hlt : andN (unR w L cs n) y < 2 ^ 64 := Nat.lt_of_le_of_lt and_le (Nat.lt_of_lt_of_le (un_lt hoc hn) (by decide))
  have hz : lN (andN (unR w L cs n) y) = lN 0 ↔ andN (unR w L cs n) y = 0 := by
    constructor
    · intro h
      have := congrArg (fun x => x.toBitVec.toNat) h
      rwa [q_tn hlt, q_tn (by decide)] at this
    · intro h; rw [h]
  rw [hz]
  constructor
  · intro h j hj
    have h1 : (andN (unR w L cs n) y).testBit j = false := by rw [h, Nat.zero_testBit]
    rw [andN_bit, hj, Bool.true_and, hy j, Nat.zero_testBit, Bool.false_or, ex_any hoc hG n (Nat.le_refl _)] at h1
    cases he : exL w L (dvF cs) bits n j with
    | true => rfl
    | false => rw [he] at h1; cases h1
  · intro h
    apply Nat.eq_of_testBit_eq
    intro j
    rw [andN_bit, hy j, Nat.zero_testBit, Bool.false_or, ex_any hoc hG n (Nat.le_refl _)]
    cases hj : (unR w L cs n).testBit j with
    | false => rfl
    | true => rw [h j hj]; rfl
theorem exL_mono {w L : Nat} {dv : Nat → Nat} {s t : Nat} {c : Nat} (hst : ∀ k, k < c → s.testBit k = true → t.testBit k = true) : ∀ i j, cntF (cuP dv) i 0 ≤ c → exL w L dv s i j = true → exL w L dv t i j = true
  | 0, _, _, h => h
  | i + 1, j, hc, h => by
    have hsn := cntF_snoc (cuP dv) i 0
    rw [Nat.zero_add] at hsn
    unfold exL at h ⊢
    rw [Bool.or_eq_true] at h ⊢
    rcases h with h | h
    · exact Or.inl (exL_mono hst i j (by omega) h)
    · rw [Bool.and_eq_true, Bool.and_eq_true] at h
      rw [if_pos h.1] at hsn
      refine Or.inr ?_
      rw [h.1, hst _ (by omega) h.2.1, h.2.2]
      rfl
theorem cntF_all {P : Nat → Bool} : ∀ (f i : Nat), (∀ j, i ≤ j → j < i + f → P j = true) → cntF P f i = f
  | 0, _, _ => rfl
  | f + 1, i, h => by
    unfold cntF
    rw [h i (Nat.le_refl _) (by omega), cntF_all f (i + 1) (fun j a b => h j (by omega) (by omega)), if_pos rfl]
    omega
theorem cntF_lt {P : Nat → Bool} {j : Nat} (hP : P j = false) : ∀ (f i : Nat), i ≤ j → j < i + f → cntF P f i < f
  | 0, i, h1, h2 => by omega
  | f + 1, i, h1, h2 => by
    unfold cntF
    by_cases hj : j = i
    · subst hj
      rw [hP, if_neg (by decide)]
      have := cntF_le P f (j + 1)
      omega
    · have := cntF_lt hP f (i + 1) (by omega) (by omega)
      split <;> omega
theorem bit_hi {m c j : Nat} (hm : m < 2 ^ c) (hj : c ≤ j) : m.testBit j = false := Nat.testBit_lt_two_pow (Nat.lt_of_lt_of_le hm (Nat.pow_le_pow_right (by decide) hj))
theorem pop_c {m c : Nat} (hc : c ≤ 12) (hm : m < 2 ^ c) : pop m = cntF (fun j => m.testBit j) c 0 := by
  refine pop_cnt (by omega) (fun j => ?_)
  by_cases hj : j < c
  · rw [decide_eq_true hj, Bool.true_and]
  · rw [decide_eq_false hj, Bool.false_and, bit_hi hm (by omega)]
theorem pop_every {c : Nat} (hc : c ≤ 12) : pop (2 ^ c - 1) = c := by
  rw [pop_c hc (by have := Nat.two_pow_pos c; omega)]
  exact cntF_all c 0 (fun j _ hj => by rw [Nat.testBit_two_pow_sub_one, decide_eq_true (by omega)])
theorem pop_less {m c : Nat} (hc : c ≤ 12) (hm : m < 2 ^ c - 1) : pop m < pop (2 ^ c - 1) := by
  rw [pop_every hc, pop_c hc (by omega)]
  by_cases h : ∃ j, j < c ∧ m.testBit j = false
  · obtain ⟨j, h1, h2⟩ := h
    exact cntF_lt (P := fun j => m.testBit j) h2 c 0 (Nat.zero_le _) (by omega)
  · have : m = 2 ^ c - 1 := by
      apply Nat.eq_of_testBit_eq
      intro j
      rw [Nat.testBit_two_pow_sub_one]
      by_cases hj : j < c
      · rw [decide_eq_true hj]
        cases hb : m.testBit j with
        | true => rfl
        | false => exact absurd ⟨j, hj, hb⟩ h
      · rw [decide_eq_false hj, bit_hi (show m < 2 ^ c by omega) (by omega)]
    omega
theorem ls_fl {ok : Nat → Bool} {c : Nat} (hc : c ≤ 12) : ∀ (f set : Nat) (mb : Option Nat) (cb : Nat), set + f = 2 ^ c - 1 → (mb = none ∧ cb = 2 ^ c - 1) ∨ (mb = some cb ∧ cb < 2 ^ c - 1) →
    (lsM ok f set mb = none ∧ flA ok f set cb = 2 ^ c - 1) ∨ (lsM ok f set mb = some (flA ok f set cb) ∧ flA ok f set cb < 2 ^ c - 1)
  | 0, _, _, _, _, h => h
  | f + 1, set, mb, cb, hs, h => by
    unfold lsM flA
    refine ls_fl hc f (set + 1) _ _ (by omega) ?_
    rcases h with ⟨rfl, rfl⟩ | ⟨rfl, hlt⟩
    · unfold lsS
      dsimp only
      cases ho : ok set with
      | true => rw [if_pos rfl, if_pos ⟨pop_less hc (by omega), rfl⟩]; exact Or.inr ⟨rfl, by omega⟩
      | false => rw [if_neg (by decide), if_neg (fun q => by cases q.2)]; exact Or.inl ⟨rfl, rfl⟩
    · unfold lsS
      dsimp only
      by_cases hp : pop set < pop cb
      · rw [if_pos hp]
        cases ho : ok set with
        | true => rw [if_pos rfl, if_pos ⟨hp, rfl⟩]; exact Or.inr ⟨rfl, by omega⟩
        | false => rw [if_neg (by decide), if_neg (fun q => by cases q.2)]; exact Or.inr ⟨rfl, hlt⟩
      · rw [if_neg hp, if_neg (fun q => hp q.1)]; exact Or.inr ⟨rfl, hlt⟩
theorem lsM_app (ok : Nat → Bool) : ∀ (a f set : Nat) (mb : Option Nat), lsM ok (a + f) set mb = lsM ok f (set + a) (lsM ok a set mb)
  | 0, f, set, mb => by rw [Nat.zero_add]; rfl
  | a + 1, f, set, mb => by
    rw [show a + 1 + f = (a + f) + 1 by omega, lsM, lsM_app ok a f (set + 1), lsM, show set + 1 + a = set + (a + 1) by omega]
theorem lsM_no {ok : Nat → Bool} : ∀ (f set : Nat), (∀ j, set ≤ j → j < set + f → ok j = false) → lsM ok f set none = none
  | 0, _, _ => rfl
  | f + 1, set, h => by
    rw [lsM, lsS, h set (Nat.le_refl _) (by omega)]
    exact lsM_no f (set + 1) (fun j a b => h j (by omega) (by omega))
theorem flA_c {ok ok' : Nat → Bool} : ∀ (f set best : Nat), (∀ j, set ≤ j → j < set + f → ok j = ok' j) → flA ok f set best = flA ok' f set best
  | 0, _, _, _ => rfl
  | f + 1, set, best, h => by
    rw [flA, flA, h set (Nat.le_refl _) (by omega)]
    exact flA_c f (set + 1) _ (fun j a b => h j (by omega) (by omega))
theorem ls_eq {w L : Nat} {cs : Nat → Nat} {n : Nat} {g : Nat → Int64} {Z : Nat → Nat} (hoc : okC n cs) (hn : n ≤ 40) (h12 : crC n cs ≤ 12) : lsO n cs L w Z = lsR n cs L w g := by
  unfold lsO lsR flR
  rw [← crC_cu hoc (Nat.le_refl _)]
  have hok : ∀ s, saP n cs L w Z s = flOk (mkA w L cs n 0 0 [] g).2 (unR w L cs n) (crC n cs) s := fun s => by
    rw [Bool.eq_iff_iff, saP_iff hoc, flOk_iff hoc hn h12]
  have h2 := Nat.two_pow_pos (crC n cs)
  show lsM _ (2 ^ crC n cs) 0 none = _
  by_cases he : flOk (mkA w L cs n 0 0 [] g).2 (unR w L cs n) (crC n cs) (2 ^ crC n cs - 1) = true
  · rw [if_pos he]
    rw [show 2 ^ crC n cs = (2 ^ crC n cs - 1) + 1 by omega, lsM_app]
    have hf := flA_c (ok := flOk (mkA w L cs n 0 0 [] g).2 (unR w L cs n) (crC n cs)) (ok' := saP n cs L w Z) (2 ^ crC n cs - 1) 0 (2 ^ crC n cs - 1) (fun j _ _ => (hok j).symm)
    rw [show (2 ^ crC n cs - 1) + 1 - 1 = 2 ^ crC n cs - 1 by omega, hf]
    have hL := ls_fl (ok := saP n cs L w Z) h12 (2 ^ crC n cs - 1) 0 none (2 ^ crC n cs - 1) (by omega) (Or.inl ⟨rfl, rfl⟩)
    rw [Nat.zero_add]
    have hoe : saP n cs L w Z (2 ^ crC n cs - 1) = true := (hok _).trans he
    generalize lsM (saP n cs L w Z) (2 ^ crC n cs - 1) 0 none = mb at hL ⊢
    generalize flA (saP n cs L w Z) (2 ^ crC n cs - 1) 0 (2 ^ crC n cs - 1) = cb at hL ⊢
    rcases hL with ⟨rfl, rfl⟩ | ⟨rfl, hlt⟩
    · rw [lsM, lsS, hoe]; rfl
    · rw [lsM, lsS]
      have := pop_less h12 hlt
      rw [if_neg (by omega)]
      rfl
  · rw [if_neg he]
    refine lsM_no _ _ (fun j _ hj => ?_)
    rw [hok]
    cases hb : flOk (mkA w L cs n 0 0 [] g).2 (unR w L cs n) (crC n cs) j with
    | false => rfl
    | true =>
      refine absurd ?_ he
      rw [flOk_iff hoc hn h12] at hb ⊢
      intro z hz
      refine exL_mono (c := crC n cs) (fun k hk _ => by rw [Nat.testBit_two_pow_sub_one, decide_eq_true hk]) n z ?_ (hb z hz)
      rw [← crC_cu hoc (Nat.le_refl _)]
      exact Nat.le_refl _
theorem q_looks (n : Nat) (cs : Nat → Nat) (L w : Nat) (g : Nat → Int64) (Z : Nat → Nat) (what : Int32) (hn : n ≤ 40) : aLooksM n cs L w Z what = aLooks n cs L w g what := by
  unfold aLooksM aLooks rfW rfO
  by_cases hw : what = 0 ∨ what = 1
  · rw [if_pos hw, if_pos hw]
    refine gd_c (fun hr => ?_)
    have hoc := okC_of hr (Nat.le_refl _)
    rw [← crC_cu hoc (Nat.le_refl _)]
    show (if 12 < crC n cs then _ else _) = _
    by_cases h12 : 12 < crC n cs
    · rw [if_pos h12, if_pos h12]
    · rw [if_neg h12, if_neg h12, ls_eq (g := g) hoc hn (by omega)]
      rfl
  · rw [if_neg hw, if_neg hw]
    rfl
