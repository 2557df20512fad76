/-! the plans in their order -/
def vl (pf : Nat → Nat) : Nat → Nat
  | 0 => 0
  | k + 1 => vl pf k * 10 + pf k
theorem vl_c {f g : Nat → Nat} : ∀ q, (∀ j, j < q → f j = g j) → vl f q = vl g q
  | 0, _ => rfl
  | q + 1, h => by unfold vl; rw [vl_c q (fun j hj => h j (by omega)), h q (by omega)]
theorem vl_lt {f : Nat → Nat} : ∀ q, (∀ j, j < q → f j ≤ 9) → vl f q < 10 ^ q
  | 0, _ => by unfold vl; decide
  | q + 1, h => by
    have := vl_lt q (fun j hj => h j (by omega))
    have := h q (by omega)
    unfold vl
    rw [Nat.pow_succ]
    omega
theorem vl_ge {f : Nat → Nat} (a : Nat) : ∀ t, vl f a * 10 ^ t ≤ vl f (a + t)
  | 0 => by rw [Nat.pow_zero, Nat.mul_one]; exact Nat.le_refl _
  | t + 1 => by
    have := vl_ge (f := f) a t
    rw [show a + (t + 1) = (a + t) + 1 by omega, vl, Nat.pow_succ, ← Nat.mul_assoc]
    omega
theorem vl_z {f : Nat → Nat} (a : Nat) : ∀ t, (∀ j, a ≤ j → j < a + t → f j = 0) → vl f (a + t) = vl f a * 10 ^ t
  | 0, _ => by rw [Nat.pow_zero, Nat.mul_one]; rfl
  | t + 1, h => by
    rw [show a + (t + 1) = (a + t) + 1 by omega, vl, vl_z a t (fun j h1 h2 => h j h1 (by omega)), h (a + t) (by omega) (by omega), Nat.pow_succ, ← Nat.mul_assoc, Nat.add_zero]
theorem vl_np {q : Nat} {pf : Nat → Nat} (h9 : ∀ j, j < q → pf j ≤ 9) (hl : 1 < lnz pf q) : vl pf q < vl (npF q (lnz pf q - 1) pf) q := by
  have hz := lnz_z pf q
  have hle := lnz_le pf q
  obtain ⟨l, hl2⟩ : ∃ l, lnz pf q = l + 2 := ⟨lnz pf q - 2, by omega⟩
  rw [hl2] at hz hle ⊢
  rw [show l + 2 - 1 = l + 1 by omega]
  obtain ⟨t, rfl⟩ : ∃ t, q = l + 2 + t := ⟨q - (l + 2), by omega⟩
  have hat := npF_at (q := l + 2 + t) (l := l + 1) (pf := pf) (by omega) (by omega)
  have e1 : vl (npF (l + 2 + t) (l + 1) pf) (l + 1) = vl pf (l + 1) + 1 := by
    unfold vl
    have : vl (npF (l + 2 + t) (l + 1) pf) l = vl pf l := vl_c l (fun j hj => by rw [hat j, if_neg (by omega), if_neg (by omega), if_neg (by omega)])
    rw [this, hat l, if_neg (by omega), if_pos (by omega)]
    rw [show l + 1 - 1 = l by omega]
    omega
  have e2 := vl_ge (f := npF (l + 2 + t) (l + 1) pf) (l + 1) (t + 1)
  rw [e1, show l + 1 + (t + 1) = l + 2 + t by omega] at e2
  have e3 := vl_z (f := pf) (l + 2) t (fun j h1 h2 => hz j (by omega) (by omega))
  have e4 : vl pf (l + 2) = vl pf (l + 1) * 10 + pf (l + 1) := rfl
  have e5 := h9 (l + 1) (by omega)
  have e6 : (0 : Nat) < 10 ^ t := Nat.pow_pos (by decide)
  rw [e3, e4]
  refine Nat.lt_of_lt_of_le ?_ e2
  rw [Nat.pow_succ, Nat.mul_comm (10 ^ t) 10, ← Nat.mul_assoc]
  exact Nat.mul_lt_mul_of_pos_right (by omega) e6
theorem sum_le {f g : Nat → Nat} : ∀ q, (∀ j, j < q → f j ≤ g j) → sumF f q ≤ sumF g q
  | 0, _ => Nat.le_refl _
  | q + 1, h => by
    have := sum_le q (fun j hj => h j (by omega))
    have := h q (by omega)
    unfold sumF
    omega
theorem sum_eq {f g : Nat → Nat} : ∀ q, (∀ j, j < q → f j ≤ g j) → sumF f q = sumF g q → ∀ j, j < q → g j = f j
  | 0, _, _, j, hj => by omega
  | q + 1, h, hs, j, hj => by
    have h1 := sum_le q (fun j hj => h j (by omega))
    have h2 := h q (by omega)
    unfold sumF at hs
    by_cases hjq : j = q
    · subst hjq; omega
    · exact sum_eq q (fun j hj => h j (by omega)) (by omega) j (by omega)
theorem sum_lt {f g : Nat → Nat} {d : Nat} (h1 : ∀ j, j < d → f j = g j) (h2 : f d < g d) : ∀ q, d < q → (∀ j, d < j → j < q → f j = 0) → sumF f q < sumF g q
  | 0, h, _ => by omega
  | q + 1, h, h3 => by
    unfold sumF
    by_cases hd : d = q
    · subst hd
      rw [sumF_c d h1]; omega
    · have := sum_lt h1 h2 q (by omega) (fun j a b => h3 j a (by omega))
      rw [h3 q (by omega) (by omega)]; omega
/-- in the order of the plans pf is not behind G -/
def lexP (q : Nat) (pf G : Nat → Nat) : Prop := ∃ d, d ≤ q ∧ (∀ j, j < d → pf j = G j) ∧ (d < q → pf d < G d)
theorem lexZ {q : Nat} {pf G : Nat → Nat} (hs : sumF pf q = sumF G q) : ∀ (t a : Nat), a + t = q → (∀ j, j < a → pf j = G j) → (∀ j, a ≤ j → j < q - 1 → pf j = 0) → lexP q pf G
  | 0, a, ha, h1, _ => ⟨q, Nat.le_refl _, fun j hj => h1 j (by omega), fun h => by omega⟩
  | t + 1, a, ha, h1, h2 => by
    by_cases hq : a = q - 1
    · refine ⟨q, Nat.le_refl _, fun j hj => ?_, fun h => by omega⟩
      by_cases hj' : j < a
      · exact h1 j hj'
      · have hja : j = a := by omega
        subst hja
        have e : q = j + 1 := by omega
        rw [e] at hs
        unfold sumF at hs
        rw [sumF_c j h1] at hs
        omega
    · have hz := h2 a (Nat.le_refl _) (by omega)
      by_cases hG : G a = 0
      · exact lexZ hs t (a + 1) (by omega) (fun j hj => by
          by_cases hj' : j < a
          · exact h1 j hj'
          · have : j = a := by omega
            subst this; rw [hz, hG]) (fun j h3 h4 => h2 j (by omega) h4)
      · exact ⟨a, by omega, h1, fun _ => by omega⟩
theorem lex_np {q : Nat} {pf G : Nat → Nat} (hs : sumF pf q = sumF G q) (hx : lexP q pf G) (hne : ¬ ∀ j, j < q → pf j = G j) (hpl : ∀ b, plOK q b pf → 1 < lnz pf q → plOK q b (npF q (lnz pf q - 1) pf)) (h6 : ∀ j, q ≤ j → j < 6 → pf j = 0) : 1 < lnz pf q ∧ lexP q (npF q (lnz pf q - 1) pf) G := by
  obtain ⟨d, hd, h1, h2⟩ := hx
  have hdq : d < q := by
    rcases Nat.lt_or_ge d q with z | z
    · exact z
    · exact absurd (fun j hj => h1 j (by omega)) hne
  have h2 := h2 hdq
  have hz := lnz_z pf q
  have hle := lnz_le pf q
  have hl : d + 1 < lnz pf q := by
    rcases Nat.lt_or_ge (d + 1) (lnz pf q) with z | z
    · exact z
    · have := sum_lt h1 h2 q hdq (fun j a b => hz j (by omega) b)
      omega
  have hl1 : 1 < lnz pf q := by omega
  refine ⟨hl1, ?_⟩
  have hsn := (hpl _ ⟨rfl, h6⟩ hl1).1
  have hat := npF_at (q := q) (l := lnz pf q - 1) (pf := pf) (by omega) (by omega)
  generalize lnz pf q = m at hz hle hl hl1 hsn hat ⊢
  by_cases hdl : d < m - 1 - 1
  · refine ⟨d, hd, fun j hj => ?_, fun _ => ?_⟩
    · rw [hat j, if_neg (by omega), if_neg (by omega), if_neg (by omega)]; exact h1 j hj
    · rw [hat d, if_neg (by omega), if_neg (by omega), if_neg (by omega)]; exact h2
  · have hdm : d = m - 1 - 1 := by omega
    have hpre : ∀ j, j < d → npF q (m - 1) pf j = G j := fun j hj => by rw [hat j, if_neg (by omega), if_neg (by omega), if_neg (by omega)]; exact h1 j hj
    have hd1 : npF q (m - 1) pf d = pf d + 1 := by rw [hat d, if_neg (by omega), if_pos hdm, ← hdm]
    by_cases hlt : pf d + 1 < G d
    · exact ⟨d, hd, hpre, fun _ => by rw [hd1]; exact hlt⟩
    · refine lexZ (hsn.trans hs) (q - (d + 1)) (d + 1) (by omega) (fun j hj => ?_) (fun j h3 h4 => ?_)
      · by_cases hj' : j < d
        · exact hpre j hj'
        · have : j = d := by omega
          subst this
          rw [hd1]; omega
      · rw [hat j, if_neg (by omega), if_neg (by omega)]
        by_cases hjm : j = m - 1
        · rw [if_pos hjm]
        · rw [if_neg hjm]; exact hz j (by omega) (by omega)
theorem tpl_no {hid : (Nat → Nat) → Bool} {q b : Nat} {G : Nat → Nat} (hq : q ≤ 6) (hb : b ≤ 9) (hhid : ∀ pf, hid pf = true → ∀ j, j < q → G j ≤ pf j) (hlt : b < sumF G q) : ∀ (F : Nat) (pf : Nat → Nat), 10 ^ q - vl pf q ≤ F → plOK q b pf → ∃ f, tpl hid q f pf = some none
  | 0, pf, hF, hpl => by
    have := vl_lt (f := pf) q (fun j hj => plOK_9 hpl hb j (by omega))
    omega
  | F + 1, pf, hF, hpl => by
    have h9 : ∀ j, j < q → pf j ≤ 9 := fun j hj => plOK_9 hpl hb j (by omega)
    have hno : hid pf = false := by
      cases hh : hid pf with
      | false => rfl
      | true =>
        have := sum_le q (hhid pf hh)
        have := hpl.1
        omega
    by_cases hl : 1 < lnz pf q
    · have hv := vl_np h9 hl
      have hv2 := vl_lt q h9
      obtain ⟨f, hf⟩ := tpl_no hq hb hhid hlt F (npF q (lnz pf q - 1) pf) (by omega) (plOK_np hpl hl)
      refine ⟨f + 1, ?_⟩
      unfold tpl
      rw [hno, if_neg (by decide), if_pos hl]
      exact hf
    · refine ⟨1, ?_⟩
      unfold tpl
      rw [hno, if_neg (by decide), if_neg hl]
theorem tpl_yes {hid : (Nat → Nat) → Bool} {q b : Nat} {G : Nat → Nat} (hq : q ≤ 6) (hb : b ≤ 9) (hhid : ∀ pf, hid pf = true ↔ ∀ j, j < q → G j ≤ pf j) (he : b = sumF G q) : ∀ (F : Nat) (pf : Nat → Nat), 10 ^ q - vl pf q ≤ F → plOK q b pf → lexP q pf G → ∃ f pf', tpl hid q f pf = some (some pf') ∧ ∀ j, j < q → pf' j = G j
  | 0, pf, hF, hpl, _ => by
    have := vl_lt (f := pf) q (fun j hj => plOK_9 hpl hb j (by omega))
    omega
  | F + 1, pf, hF, hpl, hx => by
    have h9 : ∀ j, j < q → pf j ≤ 9 := fun j hj => plOK_9 hpl hb j (by omega)
    have hs : sumF pf q = sumF G q := hpl.1.trans he
    by_cases hh : hid pf = true
    · refine ⟨1, pf, ?_, sum_eq q ((hhid pf).mp hh) hs.symm⟩
      unfold tpl
      rw [if_pos hh]
    · have hne : ¬ ∀ j, j < q → pf j = G j := fun z => hh ((hhid pf).mpr (fun j hj => Nat.le_of_eq (z j hj).symm))
      obtain ⟨hl, hx2⟩ := lex_np hs hx hne (fun b h1 h2 => plOK_np h1 h2) hpl.2
      have hv := vl_np h9 hl
      have hv2 := vl_lt q h9
      obtain ⟨f, pf', hf, hG⟩ := tpl_yes hq hb hhid he F (npF q (lnz pf q - 1) pf) (by omega) (plOK_np hpl hl) hx2
      refine ⟨f + 1, pf', ?_, hG⟩
      unfold tpl
      rw [if_neg hh, if_pos hl]
      exact hf
theorem hrP_of {hid : (Nat → Nat) → Bool} {q : Nat} {G : Nat → Nat} (hq : q ≤ 6) (hhid : ∀ pf, hid pf = true ↔ ∀ j, j < q → G j ≤ pf j) : hrP hid q (sumF G q) G := by
  refine ⟨fun b pf hb hlt => ?_, fun h9 pf => ?_⟩
  · have h0 : 0 < q := by
      rcases Nat.eq_zero_or_pos q with z | z
      · subst z; unfold sumF at hlt; omega
      · exact z
    have hpl := plOK_ini (q := q) (b := b) (pf := pf) hq
    rw [if_pos h0] at hpl
    exact tpl_no hq hb (fun pf h => (hhid pf).mp h) hlt _ _ (Nat.le_refl _) hpl
  · have hpl := plOK_ini (q := q) (b := sumF G q) (pf := pf) hq
    have e : (if 0 < q then sumF G q else 0) = sumF G q := by
      split
      · rfl
      · have : q = 0 := by omega
        subst this; rfl
    rw [e] at hpl
    refine tpl_yes hq h9 hhid rfl _ _ (Nat.le_refl _) hpl (lexZ hpl.1 q 0 (by omega) (fun j hj => by omega) (fun j _ hj => ?_))
    unfold ini csU mixN
    rw [if_pos (by omega), if_neg (by omega), if_pos (by omega)]
/-! the class's plan -/
theorem plA_of {w L : Nat} {cs : Nat → Nat} {m p : Nat} : ∀ (f i k a : Nat) (b : Bd) (g : Nat → Int32), k + (ndL w L cs m p f i b).length ≤ 6 →
    (plA w L cs m p f i k a b g).1 = a + (ndL w L cs m p f i b).sum ∧ (∀ j, j < k → (plA w L cs m p f i k a b g).2.2 j = g j) ∧ ∀ t, t < (ndL w L cs m p f i b).length → (plA w L cs m p f i k a b g).2.2 (k + t) = nI ((ndL w L cs m p f i b).getD t 0)
  | 0, _, _, _, _, _, _ => ⟨rfl, fun _ _ => rfl, fun t ht => by unfold ndL at ht; exact absurd ht (Nat.not_lt_zero _)⟩
  | f + 1, i, k, a, b, g, hk => by
    unfold plA ndL at *
    dsimp only at *
    by_cases h : lk1 m (cs i) = true
    · rw [if_pos h] at hk ⊢
      rw [List.length_cons] at hk
      rw [if_pos ⟨h, by omega⟩]
      obtain ⟨i1, i2, i3⟩ := plA_of (w := w) (L := L) (cs := cs) (m := m) (p := p) f (i + 1) (k + 1) (a + (pout w L p L (bst w L cs i b)).1) (pout w L p L (bst w L cs i b)).2 (upd g k (nI (pout w L p L (bst w L cs i b)).1)) (by omega)
      refine ⟨by rw [i1, List.sum_cons]; omega, fun j hj => ?_, fun t ht => ?_⟩
      · rw [i2 j (by omega)]; unfold upd; rw [if_neg (by omega)]
      · cases t with
        | zero =>
          rw [Nat.add_zero k, i2 k (by omega)]
          unfold upd
          rw [if_pos rfl]
          rfl
        | succ t =>
          rw [show k + (t + 1) = k + 1 + t by omega, i3 t (by rw [List.length_cons] at ht; omega)]
          rfl
    · rw [if_neg h] at hk ⊢
      rw [if_neg (fun z => h z.1)]
      exact plA_of f (i + 1) k a _ g hk
theorem sumF_sh {f : Nat → Nat} : ∀ k, sumF f (k + 1) = f 0 + sumF (fun j => f (j + 1)) k
  | 0 => by unfold sumF sumF; omega
  | k + 1 => by
    rw [sumF, sumF_sh k, sumF]
    omega
theorem sum_list : ∀ l : List Nat, l.sum = sumF (fun k => l.getD k 0) l.length
  | [] => rfl
  | x :: l => by
    rw [List.sum_cons, List.length_cons, sumF_sh, sum_list l]
    rfl
theorem ge_list {pf : Nat → Nat} : ∀ (l : List Nat) (k : Nat), geL pf k l ↔ ∀ j, j < l.length → l.getD j 0 ≤ pf (k + j)
  | [], k => ⟨fun _ j hj => absurd hj (Nat.not_lt_zero _), fun _ => trivial⟩
  | x :: l, k => by
    unfold geL
    rw [ge_list l (k + 1)]
    constructor
    · intro h j hj
      cases j with
      | zero => exact h.1
      | succ j => rw [show k + (j + 1) = k + 1 + j by omega]; exact h.2 j (by rw [List.length_cons] at hj; omega)
    · intro h
      refine ⟨h 0 (by rw [List.length_cons]; omega), fun j hj => ?_⟩
      have := h (j + 1) (by rw [List.length_cons]; omega)
      rw [show k + (j + 1) = k + 1 + j by omega] at this
      exact this
def ndG (w L : Nat) (cs : Nat → Nat) (m p n : Nat) : Nat → Nat := fun k => (ndL w L cs m p n 0 []).getD k 0
theorem lkM_C {cs : Nat → Nat} {n m : Nat} (hoc : okC n cs) : lkM n cs m = lkC n cs m := by
  unfold lkM lkC
  exact cntF_cong n 0 (fun j _ hj => (lk1_of hoc (by omega)).symm)
theorem q_hrP {w L : Nat} {cs : Nat → Nat} {n m p : Nat} (hoc : okC n cs) (hL : 1 ≤ L) (hp : p < 8) (h6 : lkM n cs m ≤ 6) : hrP (hidP w L (dvF cs) m p n) (lkM n cs m) (sumF (ndG w L cs m p n) (lkM n cs m)) (ndG w L cs m p n) := by
  refine hrP_of h6 (fun pf => ?_)
  unfold hidP
  rw [hid_nd hoc hL hp n 0 0 100 [] [] (by omega) rfl (Nat.zero_le _) (Nat.zero_le _) (fun q hq => by cases hq) (Nat.le_refl _), ge_list, ndL_len]
  have e : cntF (fun j => lk1 m (cs j)) n 0 = lkM n cs m := (lkM_C hoc).symm
  rw [e]
  constructor
  · intro h j hj
    have := h j hj
    rwa [Nat.zero_add] at this
  · intro h j hj
    rw [Nat.zero_add]
    exact h j hj
theorem q_hired (n : Nat) (cs : Nat → Nat) (L w : Nat) (g : Nat → Int32) (m p i : Int32) : aHiredM n cs (sumF (ndG w L cs m.toInt.toNat p.toInt.toNat n) (lkM n cs m.toInt.toNat)) (ndG w L cs m.toInt.toNat p.toInt.toNat n) m p i = aHired n cs L w g m p i := by
  unfold aHiredM aHired
  by_cases hp : 0 ≤ p ∧ p < 8
  · rw [if_pos hp, if_pos hp]
    by_cases hm : 1 ≤ m.toInt ∧ m.toInt < 256
    · rw [if_pos hm, if_pos hm]
      refine gd_c (fun hr => ?_)
      have hoc := okC_of hr (Nat.le_refl _)
      rw [lkM_C hoc]
      by_cases h6 : 6 < lkC n cs m.toInt.toNat
      · rw [if_pos h6, if_pos h6]
      · rw [if_neg h6, if_neg h6]
        have hl : (ndL w L cs m.toInt.toNat p.toInt.toNat n 0 []).length = lkC n cs m.toInt.toNat := ndL_len n 0 []
        obtain ⟨a1, -, a3⟩ := plA_of (w := w) (L := L) (cs := cs) (m := m.toInt.toNat) (p := p.toInt.toNat) n 0 0 0 [] g (by omega)
        have e1 : (plR w L cs m.toInt.toNat p.toInt.toNat n g).1 = sumF (ndG w L cs m.toInt.toNat p.toInt.toNat n) (lkC n cs m.toInt.toNat) := by
          unfold plR
          rw [a1, Nat.zero_add, sum_list, hl]
          rfl
        rw [e1]
        by_cases h9 : 9 < sumF (ndG w L cs m.toInt.toNat p.toInt.toNat n) (lkC n cs m.toInt.toNat)
        · rw [if_pos h9, if_pos h9]
        · rw [if_neg h9, if_neg h9]
          by_cases hi : i = -1
          · rw [if_pos hi, if_pos hi]
          · rw [if_neg hi, if_neg hi]
            by_cases hi2 : 0 ≤ i.toInt ∧ i.toInt < lkC n cs m.toInt.toNat
            · rw [if_pos hi2, if_pos hi2]
              have := a3 i.toInt.toNat (by omega)
              rw [Nat.zero_add] at this
              unfold plR
              rw [this]
              rfl
            · rw [if_neg hi2, if_neg hi2]
    · rw [if_neg hm, if_neg hm]
  · rw [if_neg hp, if_neg hp]
