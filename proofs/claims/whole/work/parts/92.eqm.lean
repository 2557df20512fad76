/-! fits, could, alibi: the answers are equal -/
theorem ct_i (cs : Nat → Nat) (i : Nat) : ct cs i ≤ i := cntF_le (askP cs) i 0
theorem nthP_at {cs : Nat → Nat} {t : Nat} (ht : t < 2 ^ 31) : ∀ (f i k : Nat), i + f < 2 ^ 31 → nthP (askP cs) (nI t) f i (ct cs i) = some k → k < i + f ∧ cs k = 63 ∧ ct cs k = t
  | 0, i, k, _, h => by cases h
  | f + 1, i, k, hi, h => by
    have hs := ct_s cs i
    have hl := ct_i cs i
    unfold nthP at h
    by_cases hc : cs i = 63
    · have ha : askP cs i = true := by unfold askP; rw [hc]; rfl
      rw [if_pos hc] at hs
      rw [if_pos ha] at h
      by_cases he : nI (ct cs i) = nI t
      · rw [if_pos he] at h
        injection h with h
        subst h
        exact ⟨by omega, hc, nI_inj (by omega) ht he⟩
      · rw [if_neg he, ← hs] at h
        obtain ⟨a, b⟩ := nthP_at ht f (i + 1) k (by omega) h
        exact ⟨by omega, b⟩
    · have ha : ¬ askP cs i = true := by unfold askP; rw [beq_iff_eq]; exact hc
      rw [if_neg hc, Nat.add_zero (ct cs i)] at hs
      rw [if_neg ha, ← hs] at h
      obtain ⟨a, b⟩ := nthP_at ht f (i + 1) k (by omega) h
      exact ⟨by omega, b⟩
theorem nthP_no {P : Nat → Bool} {t : Int32} : ∀ (f e k : Nat), (∀ j, k ≤ j → j < k + cntF P f e → nI j ≠ t) → nthP P t f e k = none
  | 0, _, _, _ => rfl
  | f + 1, e, k, h => by
    unfold nthP
    unfold cntF at h
    by_cases hp : P e = true
    · rw [if_pos hp] at h ⊢
      rw [if_neg (h k (Nat.le_refl _) (by omega))]
      exact nthP_no f (e + 1) (k + 1) (fun j a b => h j (by omega) (by omega))
    · rw [if_neg hp] at h ⊢
      exact nthP_no f (e + 1) k (fun j a b => h j a (by omega))
theorem nth_dig {D : Dg} {t : Nat} (hn : D.1 ≤ 40) (ht : t < ct D.2 D.1) : ∃ k, nthP (askP D.2) (nI t) D.1 0 0 = some k ∧ k < D.1 ∧ D.2 k = 63 ∧ ct D.2 k = t := by
  have := ct_i D.2 D.1
  obtain ⟨k, hk, -⟩ := nthP_some (P := askP D.2) (t := t) (by omega) D.1 0 0 (Nat.zero_le _) (by omega) (Nat.le_refl _) (by rw [Nat.zero_add]; exact ht)
  obtain ⟨a, b, c⟩ := nthP_at (cs := D.2) (t := t) (by omega) D.1 0 k (by omega) hk
  exact ⟨k, hk, by omega, b, c⟩
theorem flI_dig {D : Dg} {N t : Nat} (hn : D.1 ≤ 40) (ht : t < ct D.2 D.1) : flI D (dvH D.1 D.2 N) (nI t) = nI (dig (ct D.2 D.1) N t) := by
  obtain ⟨k, hk, a, b, c⟩ := nth_dig hn ht
  unfold flI
  rw [hk]
  dsimp only
  rw [dvH_at a, if_pos b, c]
theorem flN_dig {D : Dg} {N t : Nat} (hn : D.1 ≤ 40) (ht : t < ct D.2 D.1) : flN D (dvH D.1 D.2 N) t = dig (ct D.2 D.1) N t := by
  obtain ⟨k, hk, a, b, c⟩ := nth_dig hn ht
  unfold flN
  rw [hk]
  dsimp only
  rw [dvH_at a, if_pos b, c]
theorem flI_no {D : Dg} {dv : Nat → Nat} {t : Int32} (hn : D.1 ≤ 40) (ht : ¬ (0 ≤ t.toInt ∧ t.toInt < ct D.2 D.1)) : flI D dv t = -6 := by
  have := ct_i D.2 D.1
  unfold flI
  rw [nthP_no]
  intro j _ hj he
  rw [Nat.zero_add] at hj
  have hj2 : j < ct D.2 D.1 := hj
  apply ht
  rw [← he, nI_toInt (by omega)]
  omega
theorem fold_1 {D : Dg} {T : Sg} {ak : Nat} : ∀ (f i : Nat) (s : Ws), (foldN (leaf D T ak) f i s).1 = s.1 + cntF (holdsP D T) f i
  | 0, _, _ => rfl
  | f + 1, i, s => by
    rw [foldN, fold_1 f (i + 1), cntF]
    unfold leaf
    cases holdsP D T i with
    | true => rw [if_pos rfl, if_pos rfl]; show s.1 + 1 + _ = _; omega
    | false => rw [if_neg (by decide), if_neg (by decide)]; omega
theorem fold_4 {D : Dg} {T : Sg} {ak p : Nat} (hp : p < 8) : ∀ (f i : Nat) (s : Ws), (foldN (leaf D T ak) f i s).2.2.2 p = s.2.2.2 p + cntF (alP D T p) f i
  | 0, _, _ => rfl
  | f + 1, i, s => by
    rw [foldN, fold_4 hp f (i + 1), cntF]
    unfold leaf
    have ea : alP D T p i = (holdsP D T i && crB D.1 (dvH D.1 D.2 i) p) := rfl
    rw [ea]
    cases holdsP D T i with
    | true =>
      rw [if_pos rfl, Bool.true_and]
      have e : (wayN D ak i s).2.2.2 p = s.2.2.2 p + (crB D.1 (dvH D.1 D.2 i) p).toNat := by
        unfold wayN crV
        dsimp only
        rw [if_pos hp]
      rw [e]
      cases crB D.1 (dvH D.1 D.2 i) p with
      | true => rw [if_pos rfl]; show s.2.2.2 p + 1 + _ = _; omega
      | false => rw [if_neg (by decide)]; show s.2.2.2 p + 0 + _ = _; omega
    | false => rw [if_neg (by decide), Bool.false_and, if_neg (by decide)]; omega
theorem fold_3 {D : Dg} {T : Sg} {t : Nat} (hn : D.1 ≤ 40) (ht : t < ct D.2 D.1) : ∀ (f i : Nat) (s : Ws), (foldN (leaf D T (ct D.2 D.1)) f i s).2.2.1 t = coM D T t f i (s.2.2.1 t)
  | 0, _, _ => rfl
  | f + 1, i, s => by
    rw [foldN, fold_3 hn ht f (i + 1), coM]
    unfold leaf
    cases holdsP D T i with
    | true =>
      rw [if_pos rfl, if_pos rfl, flN_dig hn ht]
      have e : (wayN D (ct D.2 D.1) i s).2.2.1 t = s.2.2.1 t ||| 2 ^ dig (ct D.2 D.1) i t := by
        unfold wayN caU
        dsimp only
        rw [if_pos ht]
      rw [e]
    | false => rw [if_neg (by decide), if_neg (by decide)]
theorem fold_2s {D : Dg} {T : Sg} {ak : Nat} : ∀ (f i : Nat) (s : Ws), 0 < s.1 → (foldN (leaf D T ak) f i s).2.1 = s.2.1
  | 0, _, _, _ => rfl
  | f + 1, i, s, h => by
    have e : (leaf D T ak i s).2.1 = s.2.1 ∧ 0 < (leaf D T ak i s).1 := by
      unfold leaf
      cases holdsP D T i with
      | true =>
        rw [if_pos rfl]
        unfold wayN fiU
        dsimp only
        rw [if_neg (by omega)]
        exact ⟨rfl, by omega⟩
      | false => rw [if_neg (by decide)]; exact ⟨rfl, h⟩
    rw [foldN, fold_2s f (i + 1) _ e.2, e.1]
theorem fold_2 {D : Dg} {T : Sg} {t : Nat} (hn : D.1 ≤ 40) (ht : t < ct D.2 D.1) : ∀ (f i : Nat) (s : Ws), s.1 = 0 → 0 < cntF (holdsP D T) f i → ftM D T (nI t) f i = nI ((foldN (leaf D T (ct D.2 D.1)) f i s).2.1 t)
  | 0, _, _, _, h => by unfold cntF at h; omega
  | f + 1, i, s, hs, h => by
    unfold cntF at h
    rw [foldN, ftM]
    cases hh : holdsP D T i with
    | true =>
      have el : leaf D T (ct D.2 D.1) i s = wayN D (ct D.2 D.1) i s := by unfold leaf; rw [hh, if_pos rfl]
      rw [if_pos rfl, el, fold_2s f (i + 1) (wayN D (ct D.2 D.1) i s) (by unfold wayN; dsimp only; omega), flI_dig hn ht]
      congr 1
      unfold wayN fiU mixN
      dsimp only
      rw [if_pos hs, if_pos ht]
    | false =>
      have el : leaf D T (ct D.2 D.1) i s = s := by unfold leaf; rw [hh, if_neg (by decide)]
      rw [hh, if_neg (by decide)] at h
      rw [if_neg (by decide), el]
      exact fold_2 hn ht f (i + 1) s hs (by omega)
theorem ft_0 {D : Dg} {T : Sg} {t : Int32} : ∀ (f i : Nat), cntF (holdsP D T) f i = 0 → ftM D T t f i = -6
  | 0, _, _ => rfl
  | f + 1, i, h => by
    unfold cntF at h
    rw [ftM]
    cases hh : holdsP D T i with
    | true => rw [hh, if_pos rfl] at h; omega
    | false =>
      rw [hh, if_neg (by decide)] at h
      rw [if_neg (by decide)]
      exact ft_0 f (i + 1) (by omega)
theorem ft_no {D : Dg} {T : Sg} {t : Int32} (hn : D.1 ≤ 40) (ht : ¬ (0 ≤ t.toInt ∧ t.toInt < ct D.2 D.1)) : ∀ (f i : Nat), ftM D T t f i = -6
  | 0, _ => rfl
  | f + 1, i => by
    rw [ftM]
    split
    · exact flI_no hn ht
    · exact ft_no hn ht f (i + 1)
theorem okF_ff {cs : Nat → Nat} : ∀ (f i a : Nat), ffA cs f i a = none → ∀ j, i ≤ j → j < i + f → cs j = 63 ∨ (65 ≤ cs j ∧ cs j < 73) ∨ (97 ≤ cs j ∧ cs j < 105)
  | 0, _, _, _, j, h1, h2 => by omega
  | f + 1, i, a, h, j, h1, h2 => by
    unfold ffA at h
    by_cases hc : cs i = 63
    · rw [if_pos hc] at h
      by_cases h4 : 4 < a + 1
      · rw [if_pos h4] at h; cases h
      · rw [if_neg h4] at h
        by_cases hj : j = i
        · rw [hj]; exact Or.inl hc
        · exact okF_ff f (i + 1) (a + 1) h j (by omega) (by omega)
    · rw [if_neg hc] at h
      by_cases hn : crN (cs i) = none ∧ lkN (cs i) = none
      · rw [if_pos hn] at h; cases h
      · rw [if_neg hn] at h
        by_cases hj : j = i
        · subst hj
          refine Or.inr ?_
          unfold crN lkN at hn
          by_cases h5 : 65 ≤ cs j ∧ cs j < 73
          · exact Or.inl h5
          · by_cases h6 : 97 ≤ cs j ∧ cs j < 105
            · exact Or.inr h6
            · rw [if_neg h5, if_neg h6] at hn
              exact absurd ⟨rfl, rfl⟩ hn
        · exact okF_ff f (i + 1) a h j (by omega) (by omega)
theorem pow83 (k : Nat) : 2 ^ (3 * k) = 8 ^ k := by rw [Nat.pow_mul]
/-- what a search leaves are all ways, in their order -/
theorem cv_fold {D : Dg} {S T : Sg} {ak wy : Nat} {Fi Ca Cr : Nat → Nat} (od : okD D.1 D.2) (oS : okSg S) (hSE : SE S T) (hff : ff D.1 D.2 = none) (hcv : CV D S ak wy Fi Ca Cr) :
    ak = ct D.2 D.1 ∧ ∃ Fi0 Ca0 Cr0 : Nat → Nat, (wy, Fi, Ca, Cr) = foldN (leaf D T (ct D.2 D.1)) (8 ^ ct D.2 D.1) 0 (0, mixN 4 (fun _ => 0) Fi0, mixN 4 (fun _ => 0) Ca0, mixN 8 (fun _ => 0) Cr0) := by
  obtain ⟨fa0, W0, U0, Wr0, Fi0, Ca0, Cr0, fa, W, U, T0, Tt, l, hW0, hU0, hT0, hWr0, eak, efa, eW, eU, el, eT, hr⟩ := hcv
  have hn := od.1
  have h4 : ct D.2 D.1 ≤ 4 := akC_4 hff
  obtain ⟨q1, q2⟩ := aq_fa h4 fa0
  rw [q1] at eak
  rw [← efa] at q2
  obtain ⟨C, c1, c2, c3⟩ := kt_ok (n := D.1) (cs := D.2) (w := S.2.1) (L := S.1) (W := W) (U := U) 40 0 0 T0
  rw [← eT] at c2
  have hfit : ∀ j, j ≤ D.1 → ∀ b, hbh W U j b = fitB T (ppl b) j := by
    intro j hj b
    rw [eW, eU]
    exact hbh_fit hn oS hSE hj b
  have hlast : ∀ j, l < j → j ≤ 40 → sgt W U j = false := by
    intro j h1 h2
    rw [eW, eU]
    rw [el] at h1
    exact sgt_last h1 h2
  have cx : CX D.1 D.2 T l W U C Tt := ⟨by rw [← hSE.1]; exact oS.1, hn, fun i hi => okF_ff D.1 0 0 hff i (Nat.zero_le _) (by omega), by rw [← hSE.1, ← hSE.2.1]; exact c2, hfit, hlast⟩
  refine ⟨eak, Fi0, Ca0, Cr0, ?_⟩
  rw [← hr, eak, hSE.1, hSE.2.1]
  unfold rfS
  have h0 := hfit 0 (Nat.zero_le _) []
  have hg : ∀ N, good D.1 D.2 T N 0 = fitB T (ppl []) 0 := fun N => rfl
  rw [h0]
  cases hb : fitB T (ppl []) 0 with
  | false =>
    rw [if_neg (by decide), fold_no]
    intro N _ _
    exact holds_no (Nat.zero_le _) ((hg N).trans hb)
  | true =>
    rw [if_pos rfl]
    refine (fw_ok cx q2 (ct D.2 D.1) 0 0 (tcA D.2 D.1 0 0) 0 ([], Wr0, 0, mixN 4 (fun _ => 0) Fi0, mixN 4 (fun _ => 0) Ca0, mixN 8 (fun _ => 0) Cr0) (by omega) (Nat.zero_le _) rfl (Nat.zero_mod _) (fun k hk => by omega) (fun p _ => ?_) (fun j hj => ?_) (fun _ => ?_)).1
    · show _ = (_ || false)
      rw [Bool.or_false]
    · have : j = 0 := by omega
      subst this
      exact (hg 0).trans hb
    · exact ⟨[], fun _ => List.nodup_nil, by rw [List.take_nil]; rfl, Rel_rf⟩
theorem q_fits {D : Dg} {S T : Sg} {ak wy : Nat} {Fi Ca Cr : Nat → Nat} (od : okD D.1 D.2) (oS : okSg S) (hSE : SE S T) (hff : ff D.1 D.2 = none) (hcv : CV D S ak wy Fi Ca Cr) (t : Int32) : aFitsM D T t = aFits ak wy Fi t := by
  obtain ⟨eak, Fi0, Ca0, Cr0, hf⟩ := cv_fold od oS hSE hff hcv
  have hn := od.1
  have h1 := congrArg (fun x => x.1) hf
  have h2 := congrArg (fun x => x.2.1) hf
  dsimp only at h1 h2
  rw [fold_1, Nat.zero_add] at h1
  unfold aFitsM aFits
  rw [hff]
  dsimp only
  have e8 : 2 ^ (3 * akC D) = 8 ^ ct D.2 D.1 := pow83 _
  rw [e8, ← h1]
  by_cases ht : t = -1
  · rw [if_pos ht, if_pos ht]
  · rw [if_neg ht, if_neg ht]
    by_cases hix : 0 ≤ t.toInt ∧ t.toInt < ct D.2 D.1
    · by_cases hw : 0 < wy
      · rw [if_pos ⟨hw, by unfold ixOk; rw [eak]; exact decide_eq_true hix⟩]
        obtain ⟨e, -⟩ := i_nat hix.1
        have hlt : t.toInt.toNat < ct D.2 D.1 := by omega
        generalize t.toInt.toNat = k at e hlt
        subst e
        rw [fold_2 hn hlt _ 0 (0, mixN 4 (fun _ => 0) Fi0, mixN 4 (fun _ => 0) Ca0, mixN 8 (fun _ => 0) Cr0) rfl (by rw [← h1]; exact hw), ← h2]
      · rw [if_neg (fun z => hw z.1), ft_0]
        omega
    · rw [if_neg (fun z => hix (by
        have := z.2
        unfold ixOk at this
        rw [eak, decide_eq_true_eq] at this
        exact this))]
      exact ft_no hn hix _ _
theorem q_could {D : Dg} {S T : Sg} {ak wy : Nat} {Fi Ca Cr : Nat → Nat} (od : okD D.1 D.2) (oS : okSg S) (hSE : SE S T) (hff : ff D.1 D.2 = none) (hcv : CV D S ak wy Fi Ca Cr) (t : Int32) : aCouldM D T t = aCould ak Ca t := by
  obtain ⟨eak, Fi0, Ca0, Cr0, hf⟩ := cv_fold od oS hSE hff hcv
  have hn := od.1
  have h4 : ct D.2 D.1 ≤ 4 := akC_4 hff
  have h3 := congrArg (fun x => x.2.2.1) hf
  dsimp only at h3
  unfold aCouldM aCould
  rw [hff]
  dsimp only
  have e8 : 2 ^ (3 * akC D) = 8 ^ ct D.2 D.1 := pow83 _
  have ea : akC D = ct D.2 D.1 := rfl
  rw [e8, ea]
  by_cases hix : 0 ≤ t.toInt ∧ t.toInt < ct D.2 D.1
  · have hlt : t.toInt.toNat < ct D.2 D.1 := by omega
    rw [if_pos hix, if_pos (by unfold ixOk; rw [eak]; exact decide_eq_true hix), h3, fold_3 hn hlt]
    dsimp only
    have e0 : mixN 4 (fun _ => 0) Ca0 t.toInt.toNat = 0 := by unfold mixN; rw [if_pos (by omega)]
    rw [e0]
  · rw [if_neg hix, if_neg (fun z => hix (by
      unfold ixOk at z
      rw [eak, decide_eq_true_eq] at z
      exact z))]
theorem q_alibi {D : Dg} {S T : Sg} {ak wy : Nat} {Fi Ca Cr : Nat → Nat} (od : okD D.1 D.2) (oS : okSg S) (hSE : SE S T) (hff : ff D.1 D.2 = none) (hcv : CV D S ak wy Fi Ca Cr) (p : Int32) (hp : 0 ≤ p ∧ p < 8) : aAlibiM D T p = nI (Cr p.toInt.toNat) := by
  obtain ⟨eak, Fi0, Ca0, Cr0, hf⟩ := cv_fold od oS hSE hff hcv
  have h3 := congrArg (fun x => x.2.2.2) hf
  dsimp only at h3
  unfold aAlibiM
  rw [if_pos hp, hff]
  dsimp only
  have e8 : 2 ^ (3 * akC D) = 8 ^ ct D.2 D.1 := pow83 _
  obtain ⟨q, hq, -, e⟩ := isP_of hp
  rw [e8, e, h3, fold_4 hq]
  dsimp only
  have e0 : mixN 8 (fun _ => 0) Cr0 q = 0 := by unfold mixN; rw [if_pos hq]
  rw [e0, Nat.zero_add]
