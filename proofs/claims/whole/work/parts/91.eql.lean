/-! the search finds all ways, in their order -/
theorem holds_blk {D : Dg} {S : Sg} {r N N0 j : Nat} (h : N / 8 ^ r = N0 / 8 ^ r) (hj : j ≤ D.1) (hc : ct D.2 j + r ≤ ct D.2 D.1) (hg : good D.1 D.2 S N0 j = false) : holdsP D S N = false :=
  holds_no hj ((good_blk h hj hc).1.trans hg)
theorem anyF_iff {P : Nat → Bool} : ∀ (f i : Nat), anyF P f i = true ↔ ∃ j, i ≤ j ∧ j < i + f ∧ P j = true
  | 0, i => ⟨fun h => Bool.noConfusion h, fun ⟨j, h1, h2, _⟩ => (by omega)⟩
  | f + 1, i => by
    unfold anyF
    rw [Bool.or_eq_true, anyF_iff f (i + 1)]
    constructor
    · rintro (h | ⟨j, h1, h2, h3⟩)
      · exact ⟨i, Nat.le_refl _, by omega, h⟩
      · exact ⟨j, by omega, by omega, h3⟩
    · rintro ⟨j, h1, h2, h3⟩
      by_cases hj : j = i
      · subst hj; exact Or.inl h3
      · exact Or.inr ⟨j, by omega, by omega, h3⟩
theorem tc_bit {cs : Nat → Nat} {p : Nat} : ∀ (f i a : Nat), (tcA cs f i a).testBit p = (a.testBit p || anyF (fun j => crN (cs j) == some p) f i)
  | 0, i, a => by show a.testBit p = (a.testBit p || false); rw [Bool.or_false]
  | f + 1, i, a => by
    unfold tcA
    rw [tc_bit f (i + 1), anyF, ← Bool.or_assoc]
    congr 1
    cases hc : crN (cs i) with
    | none => rw [show ((none : Option Nat) == some p) = false from rfl, Bool.or_false]
    | some q =>
      dsimp only
      rw [bit_or_pow]
      congr 1
/-- every place of a ? -/
theorem ask_at {cs : Nat → Nat} {k : Nat} : ∀ i, k < ct cs i → ∃ z, z < i ∧ cs z = 63 ∧ ct cs z = k
  | 0, h => by unfold ct cntF at h; omega
  | i + 1, h => by
    have hs := ct_s cs i
    by_cases hk : k < ct cs i
    · obtain ⟨z, a, b, c⟩ := ask_at i hk
      exact ⟨z, by omega, b, c⟩
    · by_cases hc : cs i = 63
      · rw [if_pos hc] at hs
        exact ⟨i, by omega, hc, by omega⟩
      · rw [if_neg hc] at hs
        omega
theorem aq_ok {cs : Nat → Nat} {n : Nat} (h4 : ct cs n ≤ 4) : ∀ (r i : Nat) (f : Nat → Nat), i + r = n →
    (aqA cs r i (ct cs i) f).1 = ct cs n ∧ (∀ z, z < ct cs i → (aqA cs r i (ct cs i) f).2 z = f z) ∧ ∀ z, i ≤ z → z < n → cs z = 63 → (aqA cs r i (ct cs i) f).2 (ct cs z) = z
  | 0, i, f, hi => by
    have : i = n := by omega
    subst this
    exact ⟨rfl, fun _ _ => rfl, fun z h1 h2 _ => by omega⟩
  | r + 1, i, f, hi => by
    have hs := ct_s cs i
    have hle := ct_le (cs := cs) (show i + 1 ≤ n by omega)
    unfold aqA
    by_cases hc : cs i = 63
    · rw [if_pos hc] at hs
      rw [if_pos ⟨hc, by omega⟩, ← hs]
      obtain ⟨a1, a2, a3⟩ := aq_ok h4 r (i + 1) (csU f (ct cs i) i) (by omega)
      refine ⟨a1, fun z hz => ?_, fun z h1 h2 h3 => ?_⟩
      · rw [a2 z (by omega), csU_n (by omega)]
      · by_cases hzi : z = i
        · subst hzi
          rw [a2 (ct cs z) (by omega), csU_s]
        · exact a3 z (by omega) h2 h3
    · rw [if_neg hc] at hs
      have hs2 : ct cs (i + 1) = ct cs i := by omega
      rw [if_neg (fun q => hc q.1), ← hs2]
      obtain ⟨a1, a2, a3⟩ := aq_ok h4 r (i + 1) f (by omega)
      refine ⟨a1, a2, fun z h1 h2 h3 => ?_⟩
      have hzi : z ≠ i := fun q => hc (q ▸ h3)
      exact a3 z (by omega) h2 h3
theorem aq_fa {cs : Nat → Nat} {n : Nat} (h4 : ct cs n ≤ 4) (f : Nat → Nat) : (aqA cs n 0 0 f).1 = ct cs n ∧ ∀ k, k < ct cs n → (aqA cs n 0 0 f).2 k < n ∧ cs ((aqA cs n 0 0 f).2 k) = 63 ∧ ct cs ((aqA cs n 0 0 f).2 k) = k := by
  obtain ⟨a1, -, a3⟩ := aq_ok h4 n 0 f (by omega)
  refine ⟨a1, fun k hk => ?_⟩
  obtain ⟨z, h1, h2, h3⟩ := ask_at n hk
  have := a3 z (Nat.zero_le _) h1 h2
  rw [h3] at this
  rw [show ct cs 0 = 0 from rfl] at this
  rw [this]
  exact ⟨h1, h2, h3⟩
/-- who crosses on a filled day -/
theorem crB_cr {n : Nat} {cs : Nat → Nat} {N p : Nat} (hF : okF n cs) (hp : p < 8) : crB n (dvH n cs N) p = ((tcA cs n 0 0).testBit p || anyF (fun k => dig (ct cs n) N k == p) (ct cs n) 0) := by
  rw [tc_bit, Nat.zero_testBit, Bool.false_or, Bool.eq_iff_iff, Bool.or_eq_true]
  unfold crB
  rw [anyF_iff, anyF_iff, anyF_iff]
  constructor
  · rintro ⟨j, h1, h2, h3⟩
    rw [beq_iff_eq, dvH_at (by omega)] at h3
    by_cases hq : cs j = 63
    · rw [if_pos hq] at h3
      have := ct_lt (show j < n by omega) hq
      exact Or.inr ⟨ct cs j, Nat.zero_le _, by omega, by rw [beq_iff_eq]; exact h3⟩
    · rw [if_neg hq] at h3
      rcases hF j (by omega) with q | q | q
      · exact absurd q hq
      · obtain ⟨e1, -, -⟩ := dv_cr q
        exact Or.inl ⟨j, h1, h2, by rw [e1, h3]; exact beq_self_eq_true _⟩
      · obtain ⟨-, -, e2, -⟩ := dv_lk q
        omega
  · rintro (⟨j, h1, h2, h3⟩ | ⟨k, h1, h2, h3⟩)
    · refine ⟨j, h1, h2, ?_⟩
      rw [beq_iff_eq] at h3
      have hc := crN_some (c := cs j) (by rw [h3]; simp)
      obtain ⟨e1, -, -⟩ := dv_cr hc
      rw [e1] at h3
      injection h3 with h3
      rw [beq_iff_eq, dvH_at (by omega), if_neg (by omega)]
      exact h3
    · rw [beq_iff_eq] at h3
      obtain ⟨z, a, b, c⟩ := ask_at n (show k < ct cs n by omega)
      refine ⟨z, Nat.zero_le _, by omega, ?_⟩
      rw [beq_iff_eq, dvH_at a, if_pos b, c]
      exact h3
theorem leaf_way {D : Dg} {ak N cr : Nat} {b : Bd} {s : St} (hW : ∀ k, k < ak → s.2.1 k = dig ak N k) (hcr : ∀ p, p < 8 → cr.testBit p = crB D.1 (dvH D.1 D.2 N) p) : (wayS ak cr (b, s.2)).2.2 = wayN D ak N s.2.2 := by
  unfold wayS wayN
  dsimp only
  have e1 : fiU s.2.2.1 ak s.2.1 s.2.2.2.1 = fiU s.2.2.1 ak (dig ak N) s.2.2.2.1 := by
    unfold fiU
    split
    · funext j
      unfold mixN
      split
      · rename_i hj; exact hW j hj
      · rfl
    · rfl
  have e2 : caU ak s.2.1 s.2.2.2.2.1 = caU ak (dig ak N) s.2.2.2.2.1 := by
    funext j
    unfold caU
    split
    · rename_i hj; rw [hW j hj]
    · rfl
  have e3 : crU 8 cr s.2.2.2.2.2 = crV D.1 (dvH D.1 D.2 N) s.2.2.2.2.2 := by
    funext j
    unfold crU crV
    split
    · rename_i hj; rw [hcr j hj]
    · rfl
  rw [e1, e2, e3]
theorem fwA_0 {n l ak : Nat} {W U : Nat → Nat} {T : Nat → Option Nat} {fa : Nat → Nat} {w L nth ev cr : Nat} {s : St} : fwA n l ak W U T fa w L 0 nth ev cr s = if (wkA W U T w L (min n l - ev) ev s.1).1 then wayS ak cr ((wkA W U T w L (min n l - ev) ev s.1).2, s.2) else ((wkA W U T w L (min n l - ev) ev s.1).2, s.2) := rfl
/-- one of the eight -/
def kid (n l ak : Nat) (W U : Nat → Nat) (T : Nat → Option Nat) (fa : Nat → Nat) (w L r nth cr : Nat) (b : Bd) (s : St) (p : Nat) : St :=
  if hbh W U (fa nth + 1) (bw w L (p, 0) b) then fwA n l ak W U T fa w L r (nth + 1) (fa nth + 1) (cr ||| 2 ^ p) (bw w L (p, 0) b, csU s.2.1 nth p, s.2.2) else (bw w L (p, 0) b, csU s.2.1 nth p, s.2.2)
theorem fwA_s {n l ak : Nat} {W U : Nat → Nat} {T : Nat → Option Nat} {fa : Nat → Nat} {w L r nth ev cr : Nat} {s : St} : fwA n l ak W U T fa w L (r + 1) nth ev cr s = if (wkA W U T w L (min (fa nth) l - ev) ev s.1).1 then ev8 (kid n l ak W U T fa w L r nth cr (wkA W U T w L (min (fa nth) l - ev) ev s.1).2) 8 0 ((wkA W U T w L (min (fa nth) l - ev) ev s.1).2, s.2) else ((wkA W U T w L (min (fa nth) l - ev) ev s.1).2, s.2) := rfl
set_option maxHeartbeats 4000000 in
theorem fw_ok {D : Dg} {S : Sg} {l : Nat} {W U : Nat → Nat} {C : Nat → Nat × Nat} {T : Nat → Option Nat} (cx : CX D.1 D.2 S l W U C T) {fa : Nat → Nat} (hfa : ∀ k, k < ct D.2 D.1 → fa k < D.1 ∧ D.2 (fa k) = 63 ∧ ct D.2 (fa k) = k) :
    ∀ (r nth ev cr N0 : Nat) (s : St), nth + r = ct D.2 D.1 → ev ≤ D.1 → ct D.2 ev = nth → N0 % 8 ^ r = 0 → (∀ k, k < nth → s.2.1 k = dig (ct D.2 D.1) N0 k) →
      (∀ p, p < 8 → cr.testBit p = ((tcA D.2 D.1 0 0).testBit p || anyF (fun k => dig (ct D.2 D.1) N0 k == p) nth 0)) → (∀ j, j ≤ ev → good D.1 D.2 S N0 j = true) → (ev ≤ l → BdR S (C ev) (his S.2.1 (dvH D.1 D.2 N0) ev) s.1) →
      (fwA D.1 l (ct D.2 D.1) W U T fa S.2.1 S.1 r nth ev cr s).2.2 = foldN (leaf D S (ct D.2 D.1)) (8 ^ r) N0 s.2.2 ∧ ∀ k, k < nth → (fwA D.1 l (ct D.2 D.1) W U T fa S.2.1 S.1 r nth ev cr s).2.1 k = s.2.1 k
  | 0, nth, ev, cr, N0, s, h1, h2, h3, h4, h5, h6, h7, h8 => by
    rw [fwA_0]
    have hq := ct_no (cs := D.2) (a := ev) (b := D.1) (by omega)
    have hf : foldN (leaf D S (ct D.2 D.1)) (8 ^ 0) N0 s.2.2 = leaf D S (ct D.2 D.1) N0 s.2.2 := rfl
    rw [hf]
    rcases seg_ok cx (N := N0) (b := s.1) h2 (Nat.le_refl _) hq h8 with ⟨w1, w2, -⟩ | ⟨w1, j, w2, w3, w4⟩
    · rw [if_pos w1]
      have hh : holdsP D S N0 = true := holds_good.mpr (fun j hj => by
        by_cases hje : j ≤ ev
        · exact h7 j hje
        · exact w2 j (by omega) hj)
      refine ⟨?_, fun k _ => rfl⟩
      unfold leaf
      rw [hh, if_pos rfl]
      refine leaf_way (fun k hk => h5 k (by omega)) (fun p hp => ?_)
      rw [h6 p hp, crB_cr cx.2.2.1 hp, show nth = ct D.2 D.1 by omega]
    · rw [w1, if_neg (by decide)]
      refine ⟨?_, fun k _ => rfl⟩
      unfold leaf
      rw [holds_no w3 w4, if_neg (by decide)]
  | r + 1, nth, ev, cr, N0, s, h1, h2, h3, h4, h5, h6, h7, h8 => by
    rw [fwA_s]
    obtain ⟨f1, f2, f3⟩ := hfa nth (by omega)
    have hB : 0 < 8 ^ r := Nat.pow_pos (by decide)
    have hev : ev ≤ fa nth := by
      rcases Nat.lt_or_ge (fa nth) ev with z | z
      · have := ct_lt z f2; omega
      · exact z
    have hq := ct_no (cs := D.2) (a := ev) (b := fa nth) (by omega)
    rcases seg_ok cx (N := N0) (b := s.1) hev (by omega) hq h8 with ⟨w1, w2, w3⟩ | ⟨w1, j, w2, w3, w4⟩
    · rw [if_pos w1]
      generalize (wkA W U T S.2.1 S.1 (min (fa nth) l - ev) ev s.1).2 = b at w3 ⊢
      have hgN0 : ∀ j, j ≤ fa nth → good D.1 D.2 S N0 j = true := fun j hj => by
        by_cases hje : j ≤ ev
        · exact h7 j hje
        · exact w2 j (by omega) hj
      have one : ∀ (p : Nat) (s' : St), p < 8 → (∀ k, k < nth → s'.2.1 k = dig (ct D.2 D.1) N0 k) →
          (kid D.1 l (ct D.2 D.1) W U T fa S.2.1 S.1 r nth cr b s' p).2.2 = foldN (leaf D S (ct D.2 D.1)) (8 ^ r) (N0 + p * 8 ^ r) s'.2.2 ∧ ∀ k, k < nth → (kid D.1 l (ct D.2 D.1) W U T fa S.2.1 S.1 r nth cr b s' p).2.1 k = s'.2.1 k := by
        intro p s' hp hs'
        have hb1 : (N0 + p * 8 ^ r) / 8 ^ (r + 1) = N0 / 8 ^ (r + 1) := blk_kid h4 hp rfl
        have hdn : dig (ct D.2 D.1) (N0 + p * 8 ^ r) nth = p := dig_kid h4 hp h1
        have hdk : ∀ k, k < nth → dig (ct D.2 D.1) (N0 + p * 8 ^ r) k = dig (ct D.2 D.1) N0 k := fun k hk => dig_blk hb1 (by omega)
        have hdv : dvH D.1 D.2 (N0 + p * 8 ^ r) (fa nth) = p := by rw [dvH_at f1, if_pos f2, f3, hdn]
        have hcs : ct D.2 (fa nth + 1) = nth + 1 := by rw [ct_s, if_pos f2, f3]
        have hchk : hbh W U (fa nth + 1) (bw S.2.1 S.1 (p, 0) b) = good D.1 D.2 S (N0 + p * 8 ^ r) (fa nth + 1) ∧ (fa nth + 1 ≤ l → BdR S (C (fa nth + 1)) (his S.2.1 (dvH D.1 D.2 (N0 + p * 8 ^ r)) (fa nth + 1)) (bw S.2.1 S.1 (p, 0) b)) := by
          by_cases hl : fa nth + 1 ≤ l
          · have hb0 := w3 (by omega)
            rw [← (good_blk (cs := D.2) (S := S) hb1 (show fa nth ≤ D.1 by omega) (by omega)).2] at hb0
            have := ev_check cx (by omega) (ev_asked cx f1 f2 hdv hp hb0)
            exact ⟨this.1, fun _ => this.2⟩
          · have := good_late cx (N := N0 + p * 8 ^ r) (show fa nth + 1 ≤ D.1 by omega) (by omega)
            exact ⟨by rw [this.1, this.2], fun z => absurd z hl⟩
        unfold kid
        rw [hchk.1]
        cases hg : good D.1 D.2 S (N0 + p * 8 ^ r) (fa nth + 1) with
        | false =>
          rw [if_neg (by decide)]
          refine ⟨?_, fun k hk => csU_n (by omega)⟩
          rw [fold_no]
          intro N a c
          exact holds_blk (blk_of (kid_0 h4) a c) (by omega) (by omega) hg
        | true =>
          rw [if_pos rfl]
          have ih := fw_ok cx hfa r (nth + 1) (fa nth + 1) (cr ||| 2 ^ p) (N0 + p * 8 ^ r) (bw S.2.1 S.1 (p, 0) b, csU s'.2.1 nth p, s'.2.2) (by omega) (by omega) hcs (kid_0 h4) (fun k hk => by
            show csU s'.2.1 nth p k = _
            by_cases hkn : k = nth
            · subst hkn; rw [csU_s, hdn]
            · rw [csU_n hkn, hs' k (by omega), hdk k (by omega)]) (fun q hq8 => by
            have e9 : anyF (fun k => dig (ct D.2 D.1) (N0 + p * 8 ^ r) k == q) nth 0 = anyF (fun k => dig (ct D.2 D.1) N0 k == q) nth 0 := by
              rw [Bool.eq_iff_iff, anyF_iff, anyF_iff]
              constructor
              · rintro ⟨j, a, c, e⟩
                exact ⟨j, a, c, by rw [← hdk j (by omega)]; exact e⟩
              · rintro ⟨j, a, c, e⟩
                exact ⟨j, a, c, by rw [hdk j (by omega)]; exact e⟩
            rw [bit_or_pow, h6 q hq8, anyF_snoc, Nat.zero_add, hdn, e9, Bool.or_assoc]
            congr 2) (fun j hj => by
            by_cases hjf : j = fa nth + 1
            · rw [hjf]; exact hg
            · have hjc := ct_le (cs := D.2) (show j ≤ fa nth by omega)
              rw [(good_blk (S := S) hb1 (show j ≤ D.1 by omega) (by omega)).1]
              exact hgN0 j (by omega)) hchk.2
          refine ⟨ih.1, fun k hk => ?_⟩
          rw [ih.2 k (by omega)]
          exact csU_n (by omega)
      have all : ∀ (f p : Nat) (s' : St), p + f = 8 → (∀ k, k < nth → s'.2.1 k = dig (ct D.2 D.1) N0 k) →
          (ev8 (kid D.1 l (ct D.2 D.1) W U T fa S.2.1 S.1 r nth cr b) f p s').2.2 = foldN (leaf D S (ct D.2 D.1)) (f * 8 ^ r) (N0 + p * 8 ^ r) s'.2.2 ∧ ∀ k, k < nth → (ev8 (kid D.1 l (ct D.2 D.1) W U T fa S.2.1 S.1 r nth cr b) f p s').2.1 k = s'.2.1 k := by
        intro f
        induction f with
        | zero => intro p s' _ _; rw [Nat.zero_mul]; exact ⟨rfl, fun _ _ => rfl⟩
        | succ f ihf =>
          intro p s' hp hs'
          obtain ⟨o1, o2⟩ := one p s' (by omega) hs'
          obtain ⟨i1, i2⟩ := ihf (p + 1) (kid D.1 l (ct D.2 D.1) W U T fa S.2.1 S.1 r nth cr b s' p) (by omega) (fun k hk => (o2 k hk).trans (hs' k hk))
          rw [ev8]
          refine ⟨?_, fun k hk => (i2 k hk).trans (o2 k hk)⟩
          rw [i1, o1, show (f + 1) * 8 ^ r = 8 ^ r + f * 8 ^ r by rw [Nat.succ_mul, Nat.add_comm], foldN_add, show N0 + (p + 1) * 8 ^ r = N0 + p * 8 ^ r + 8 ^ r by rw [Nat.succ_mul, Nat.add_assoc]]
      have := all 8 0 (b, s.2) (by omega) h5
      rw [Nat.zero_mul, Nat.add_zero] at this
      rw [show 8 ^ (r + 1) = 8 * 8 ^ r by rw [Nat.pow_succ, Nat.mul_comm]]
      exact this
    · rw [w1, if_neg (by decide)]
      refine ⟨?_, fun k _ => rfl⟩
      rw [fold_no]
      intro N a c
      have hjc := ct_le (cs := D.2) w3
      exact holds_blk (blk_of h4 a c) (by omega) (by omega) w4
