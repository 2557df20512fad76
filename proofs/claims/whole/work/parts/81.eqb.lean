/-! names alone -/
def nm (b : Bd) : List Nat := b.map (·.1)
theorem nm_cons (q : Nat × Nat) (b : Bd) : nm (q :: b) = q.1 :: nm b := rfl
theorem bfind_nm {p : Nat} : ∀ {b b' : Bd}, nm b = nm b' → bfind p b = bfind p b'
  | [], [], _ => rfl
  | [], q :: b', h => by rw [nm_cons] at h; cases h
  | q :: b, [], h => by rw [nm_cons] at h; cases h
  | q :: b, q' :: b', h => by
    rw [nm_cons, nm_cons] at h
    injection h with h1 h2
    rw [bfind_cons, bfind_cons, h1, bfind_nm h2]
theorem bhas_nm {p : Nat} {b b' : Bd} (h : nm b = nm b') : bhas p b = bhas p b' := by unfold bhas; rw [bfind_nm h]
theorem bdrop_nm {p : Nat} {b b' : Bd} (h : nm b = nm b') : nm (bdrop p b) = nm (bdrop p b') := by
  unfold bdrop
  rw [bfind_nm h]
  cases bfind p b' with
  | none => exact h
  | some i =>
    show (b.eraseIdx i).map _ = (b'.eraseIdx i).map _
    rw [← erase_map, ← erase_map]
    show (nm b).eraseIdx i = (nm b').eraseIdx i
    rw [h]
theorem push_nm {w L p t t' : Nat} {b b' : Bd} (h : nm b = nm b') : nm (if w = 2 then (((p, t) :: b).take L).eraseIdx ((L + 1) / 2 - 1) else ((p, t) :: b).take L) = nm (if w = 2 then (((p, t') :: b').take L).eraseIdx ((L + 1) / 2 - 1) else ((p, t') :: b').take L) := by
  have h2 : nm (((p, t) :: b).take L) = nm (((p, t') :: b').take L) := by
    unfold nm
    rw [List.map_take, List.map_take, List.map_cons, List.map_cons]
    unfold nm at h
    rw [h]
  split
  · unfold nm
    rw [← erase_map, ← erase_map]
    unfold nm at h2
    rw [h2]
  · exact h2
theorem bwM_nm {w L p t t' : Nat} {b b' : Bd} (h : nm b = nm b') : nm (bwM w L (p, t) b) = nm (bwM w L (p, t') b') := by
  unfold bwM
  dsimp only
  refine push_nm ?_
  split
  · exact bdrop_nm h
  · exact h
theorem pplA_nm : ∀ {b b' : Bd} {a : Nat}, nm b = nm b' → pplA a b = pplA a b'
  | [], [], _, _ => rfl
  | [], q :: b', _, h => by rw [nm_cons] at h; cases h
  | q :: b, [], _, h => by rw [nm_cons] at h; cases h
  | q :: b, q' :: b', a, h => by
    rw [nm_cons, nm_cons] at h
    injection h with h1 h2
    rw [pplA, pplA, h1, pplA_nm h2]
theorem ppl_nm {b b' : Bd} (h : nm b = nm b') : ppl b = ppl b' := pplA_nm h
theorem nm_tg (b : Bd) : nm (b.map tg) = nm b := by unfold nm; rw [List.map_map]; rfl
theorem bhas_cons (p : Nat) (q : Nat × Nat) (b : Bd) : bhas p (q :: b) = (decide (q.1 = p) || bhas p b) := by
  unfold bhas
  rw [bfind_cons]
  by_cases h : q.1 = p
  · rw [if_pos h, decide_eq_true h]; rfl
  · rw [if_neg h, decide_eq_false h]
    cases bfind p b <;> rfl
theorem bit_or_pow (a k p : Nat) : (a ||| 2 ^ k).testBit p = (a.testBit p || decide (k = p)) := by
  rw [Nat.testBit_or, Nat.testBit_two_pow]
theorem pplA_bit {p : Nat} (hp : p < 8) : ∀ (b : Bd) (a : Nat), (pplA a b).testBit p = (a.testBit p || bhas p b)
  | [], a => by show a.testBit p = (a.testBit p || false); rw [Bool.or_false]
  | q :: b, a => by
    rw [pplA, pplA_bit hp b, bhas_cons]
    by_cases h8 : q.1 < 8
    · rw [if_pos h8, bit_or_pow, Bool.or_assoc]
    · rw [if_neg h8, decide_eq_false (by omega), Bool.false_or]
theorem ppl_bit {p : Nat} (hp : p < 8) (b : Bd) : (ppl b).testBit p = bhas p b := by
  unfold ppl
  rw [pplA_bit hp, Nat.zero_testBit, Bool.false_or]
/-! who reads a name -/
theorem rd_step {w L : Nat} {cs dv : Nat → Nat} {n i k p : Nat} {R0 Z0 : Nat → Nat} {b : Bd} {acc : Nat} (hoc : okC n cs) (hi : i < n) (hp : p < 8) (hdv : dv k = dvF cs i) (hb : nm b = nm (mR w L dv k)) (ha : ∀ q, q < 8 → acc.testBit q = ((grA w L dv R0 Z0 k).2.1 q).testBit p) (h256 : acc < 256) :
    nm (bst w L cs i b) = nm (mR w L dv (k + 1)) ∧ (∀ q, q < 8 → (match lkN (cs i) with
      | some q => if bhas p (bst w L cs i b) then acc ||| 2 ^ q else acc
      | none => acc).testBit q = ((grA w L dv R0 Z0 (k + 1)).2.1 q).testBit p) ∧ (match lkN (cs i) with
      | some q => if bhas p (bst w L cs i b) then acc ||| 2 ^ q else acc
      | none => acc) < 256 := by
  have hgb := grA_b w L dv R0 Z0 k
  rw [mR_s, mst, grA, grS]
  rcases hoc i hi with q | q
  · obtain ⟨e1, e2, e3⟩ := dv_cr q
    have h16 : dv k < 16 := by rw [hdv]; unfold dvF; omega
    simp only [if_pos h16, e3]
    refine ⟨?_, ha, h256⟩
    unfold bst
    rw [e1, hdv]
    dsimp only
    rw [bw_bwM (by show dvN (cs i) ≠ 8; omega)]
    exact bwM_nm hb
  · obtain ⟨e1, e2, e3, e4⟩ := dv_lk q
    have h16 : ¬ dv k < 16 := by rw [hdv]; unfold dvF; omega
    have hbs : bst w L cs i b = b := by unfold bst; rw [e1]
    have hdk : dv k - 16 = dvN (cs i) - 16 := by rw [hdv]; rfl
    simp only [if_neg h16, e2, hbs, hdk]
    refine ⟨hb, fun z hz => ?_, ?_⟩
    · unfold csU
      by_cases hzq : z = dvN (cs i) - 16
      · rw [if_pos hzq, Nat.testBit_or, ppl_bit hp, hgb, ← bhas_nm hb, ← hzq, ← ha z hz]
        cases bhas p b with
        | true => simp only [if_true]; rw [bit_or_pow, decide_eq_true rfl]
        | false => simp
      · rw [if_neg hzq, ← ha z hz]
        split
        · rw [bit_or_pow, decide_eq_false (fun y => hzq y.symm), Bool.or_false]
        · rfl
    · split
      · exact Nat.or_lt_two_pow (n := 8) h256 (Nat.pow_lt_pow_right (by decide) (by omega))
      · exact h256
/-- from where nothing more is laid in -/
theorem rdA_no {w L : Nat} {cs dv : Nat → Nat} {n p s : Nat} {pl : Option Nat} {R0 Z0 : Nat → Nat} (hoc : okC n cs) (hp : p < 8) (hdv : ∀ j, j < n → pl ≠ some j → True) :
    ∀ (f i : Nat) (b : Bd) (acc : Nat), i + f ≤ n → (∀ j, i ≤ j → j < i + f → dv (j + s) = dvF cs j ∧ pl ≠ some j) → nm b = nm (mR w L dv (i + s)) → (∀ q, q < 8 → acc.testBit q = ((grA w L dv R0 Z0 (i + s)).2.1 q).testBit p) → acc < 256 →
      nm (rdA w L cs p pl f i b acc).2 = nm (mR w L dv (i + f + s)) ∧ (∀ q, q < 8 → (rdA w L cs p pl f i b acc).1.testBit q = ((grA w L dv R0 Z0 (i + f + s)).2.1 q).testBit p) ∧ (rdA w L cs p pl f i b acc).1 < 256
  | 0, i, b, acc, _, _, h1, h2, h3 => ⟨h1, h2, h3⟩
  | f + 1, i, b, acc, hi, hd, h1, h2, h3 => by
    obtain ⟨d1, d2⟩ := hd i (Nat.le_refl _) (by omega)
    obtain ⟨s1, s2, s3⟩ := rd_step (R0 := R0) (Z0 := Z0) hoc (by omega) hp d1 h1 h2 h3
    rw [show i + (f + 1) + s = (i + 1) + f + s by omega]
    unfold rdA
    simp only [if_neg d2]
    rw [show i + s + 1 = i + 1 + s by omega] at s1 s2
    exact rdA_no hoc hp hdv f (i + 1) _ _ (by omega) (fun j a b => hd j (by omega) (by omega)) s1 s2 s3
theorem rdA_app {w L : Nat} {cs : Nat → Nat} {p : Nat} {pl : Option Nat} : ∀ (a f i : Nat) (b : Bd) (acc : Nat), rdA w L cs p pl (a + f) i b acc = rdA w L cs p pl f (i + a) (rdA w L cs p pl a i b acc).2 (rdA w L cs p pl a i b acc).1
  | 0, f, i, b, acc => by rw [Nat.zero_add]; rfl
  | a + 1, f, i, b, acc => by
    rw [show a + 1 + f = (a + f) + 1 by omega, show i + (a + 1) = i + 1 + a by omega]
    rw [rdA, rdA_app a f (i + 1)]
    rfl
theorem sbA_bit {R : Nat → Nat} {p : Nat} : ∀ (f q a z : Nat), (sbA R p f q a).testBit z = (a.testBit z || (decide (q ≤ z ∧ z < q + f) && (R z).testBit p))
  | 0, q, a, z => by
    show a.testBit z = _
    rw [decide_eq_false (by omega), Bool.false_and, Bool.or_false]
  | f + 1, q, a, z => by
    unfold sbA
    rw [sbA_bit f (q + 1)]
    by_cases hz : z = q
    · subst hz
      rw [decide_eq_false (by omega), Bool.false_and, Bool.or_false, decide_eq_true (show z ≤ z ∧ z < z + (f + 1) by omega), Bool.true_and]
      cases hb : (R z).testBit p with
      | true => rw [if_pos rfl, bit_or_pow, decide_eq_true rfl]
      | false => rw [if_neg (by decide), Bool.or_false]
    · have e : decide (q + 1 ≤ z ∧ z < q + 1 + f) = decide (q ≤ z ∧ z < q + (f + 1)) := by
        rw [decide_eq_decide]; omega
      rw [e]
      congr 1
      split
      · rw [bit_or_pow, decide_eq_false (fun y => hz y.symm), Bool.or_false]
      · rfl
theorem bits_eq8 {a b : Nat} (ha : a < 256) (hb : b < 256) (h : ∀ q, q < 8 → a.testBit q = b.testBit q) : a = b := by
  apply Nat.eq_of_testBit_eq
  intro i
  by_cases hi : i < 8
  · exact h i hi
  · have h256 : 2 ^ 8 ≤ 2 ^ i := Nat.pow_le_pow_right (by decide) (by omega)
    rw [Nat.testBit_lt_two_pow (show a < 2 ^ i by omega), Nat.testBit_lt_two_pow (show b < 2 ^ i by omega)]
theorem sb_of {R : Nat → Nat} {p x : Nat} (hx : x < 256) (h : ∀ q, q < 8 → x.testBit q = (R q).testBit p) : sbA R p 8 0 0 = x := by
  refine bits_eq8 (sbA_lt 8 0 0 (by omega) (by decide)) hx (fun q hq => ?_)
  rw [sbA_bit, Nat.zero_testBit, Bool.false_or, decide_eq_true (by omega), Bool.true_and, h q hq]
theorem gr0_0 (R : Nat → Nat) {q : Nat} (hq : q < 8) : gr0 R q = 0 := by unfold gr0 mixN; rw [if_pos hq]
theorem rd_seen {w L : Nat} {cs : Nat → Nat} {n p : Nat} (hoc : okC n cs) (hp : p < 8) (R Z : Nat → Nat) : sbA (rdM n cs L w R Z).2.1 p 8 0 0 = (rdA w L cs p none n 0 [] 0).1 := by
  have := rdA_no (w := w) (L := L) (s := 0) (pl := none) (R0 := gr0 R) (Z0 := Z) (dv := dvF cs) hoc hp (fun _ _ _ => trivial) n 0 [] 0 (by omega) (fun j _ _ => ⟨rfl, by simp⟩) rfl (fun q hq => by
    show (0 : Nat).testBit q = (gr0 R q).testBit p
    rw [gr0_0 R hq, Nat.zero_testBit, Nat.zero_testBit]) (by decide)
  refine sb_of this.2.2 (fun q hq => ?_)
  have h2 := this.2.1 q hq
  rw [show 0 + n + 0 = n by omega] at h2
  exact h2
theorem q_seen (n : Nat) (cs : Nat → Nat) (L w : Nat) (R Z : Nat → Nat) (p : Int32) : aSeenM n cs L w R Z p = aSeen n cs L w p := by
  unfold aSeenM aSeen rfP
  by_cases hp : 0 ≤ p ∧ p < 8
  · rw [if_pos hp, if_pos hp]
    refine gd_c (fun hr => ?_)
    obtain ⟨q, hq8, rfl, hqn⟩ := isP_of hp
    rw [hqn, rd_seen (okC_of hr (Nat.le_refl _)) hq8]
  · rw [if_neg hp, if_neg hp]
    rfl
