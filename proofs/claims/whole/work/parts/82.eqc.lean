/-! where to cross -/
theorem insD_lt {p v j : Nat} {dv : Nat → Nat} (h : j < p) : insD p v dv j = dv j := by unfold insD; rw [if_pos h]
theorem insD_at {p v : Nat} {dv : Nat → Nat} : insD p v dv p = v := by unfold insD; rw [if_neg (by omega), if_pos rfl]
theorem insD_gt {p v j : Nat} {dv : Nat → Nat} (h : p ≤ j) : insD p v dv (j + 1) = dv j := by unfold insD; rw [if_neg (by omega), if_neg (by omega)]; rfl
theorem rd_cross {w L : Nat} {cs : Nat → Nat} {n p pl : Nat} (hoc : okC n cs) (hp : p < 8) (hpl : pl ≤ n) (R Z : Nat → Nat) : sbA (grA w L (insD pl p (dvF cs)) (gr0 R) Z (n + 1)).2.1 p 8 0 0 = rdC w L cs p n pl := by
  -- up to the place
  have h1 := rdA_no (w := w) (L := L) (s := 0) (pl := some pl) (R0 := gr0 R) (Z0 := Z) (dv := insD pl p (dvF cs)) hoc hp (fun _ _ _ => trivial) pl 0 [] 0 (by omega) (fun j _ hj => ⟨insD_lt (by omega), fun e => by injection e with e; omega⟩) rfl (fun q hq => by
    show (0 : Nat).testBit q = (gr0 R q).testBit p
    rw [gr0_0 R hq, Nat.zero_testBit, Nat.zero_testBit]) (by decide)
  rw [show 0 + pl + 0 = pl by omega] at h1
  obtain ⟨a1, a2, a3⟩ := h1
  unfold rdC
  obtain ⟨m, rfl⟩ : ∃ m, n = pl + m := ⟨n - pl, by omega⟩
  rw [rdA_app, Nat.zero_add]
  generalize hS : rdA w L cs p (some pl) pl 0 [] 0 = S at a1 a2 a3
  -- the crossing
  have b0 : (grA w L (insD pl p (dvF cs)) (gr0 R) Z (pl + 1)).2.1 = (grA w L (insD pl p (dvF cs)) (gr0 R) Z pl).2.1 := by
    rw [grA, grS, insD_at, if_pos (by omega)]
  have b1 : mR w L (insD pl p (dvF cs)) (pl + 1) = bwM w L (p, pl) (mR w L (insD pl p (dvF cs)) pl) := by
    rw [mR_s, mst, insD_at, if_pos (by omega)]
  cases m with
  | zero =>
    refine sb_of a3 (fun q hq => ?_)
    rw [show pl + 0 + 1 = pl + 1 by omega, b0]
    exact a2 q hq
  | succ m =>
    have c1 : nm (bw w L (p, 0) S.2) = nm (mR w L (insD pl p (dvF cs)) (pl + 1)) := by
      rw [b1, bw_bwM (by show p ≠ 8; omega)]
      exact bwM_nm a1
    obtain ⟨s1, s2, s3⟩ := rd_step (w := w) (L := L) (R0 := gr0 R) (Z0 := Z) (dv := insD pl p (dvF cs)) (k := pl + 1) (i := pl) hoc (by omega) hp (insD_gt (Nat.le_refl _)) c1 (fun q hq => by rw [b0]; exact a2 q hq) a3
    have h2 := rdA_no (w := w) (L := L) (s := 1) (pl := some pl) (R0 := gr0 R) (Z0 := Z) (dv := insD pl p (dvF cs)) hoc hp (fun _ _ _ => trivial) m (pl + 1) _ _ (by omega) (fun j hj _ => ⟨insD_gt (by omega), fun e => by injection e with e; omega⟩) s1 s2 s3
    rw [rdA]
    simp only [if_pos]
    refine sb_of h2.2.2 (fun q hq => ?_)
    have h3 := h2.2.1 q hq
    rw [show pl + 1 + m + 1 = pl + (m + 1) + 1 by omega] at h3
    exact h3
theorem crF_rdC {w L : Nat} {cs : Nat → Nat} {n p : Nat} (hoc : okC n cs) (hp : p < 8) (R Z : Nat → Nat) (i : Nat) (hi : i ≤ n) : crF n cs L w R Z p i = pop (rdC w L cs p n i) := by
  unfold crF
  rw [rd_cross hoc hp hi]
theorem mnM_mnA (F F' : Nat → Nat) : ∀ (f i : Nat) (a : Nat × Nat), (∀ j, i ≤ j → j < i + f → F j = F' j) → mnM F f i (some a) = some (mnA F' f i a)
  | 0, _, _, _ => rfl
  | f + 1, i, a, h => by
    rw [mnM_s, mnA, h i (Nat.le_refl _) (by omega)]
    split
    · exact mnM_mnA F F' f (i + 1) _ (fun j h1 h2 => h j (by omega) (by omega))
    · exact mnM_mnA F F' f (i + 1) _ (fun j h1 h2 => h j (by omega) (by omega))
theorem mnM_mnA0 (F F' : Nat → Nat) (f i z B : Nat) (h : ∀ j, i ≤ j → j < i + (f + 1) → F j = F' j) (hB : F' i < B) : mnM F (f + 1) i none = some (mnA F' (f + 1) i (z, B)) := by
  rw [mnM, mnA]
  dsimp only
  rw [if_pos hB, h i (Nat.le_refl _) (by omega)]
  exact mnM_mnA F F' f (i + 1) _ (fun j h1 h2 => h j (by omega) (by omega))
theorem rdA_256 {w L : Nat} {cs : Nat → Nat} {n p pl : Nat} (hoc : okC n cs) (hp : p < 8) (hpl : pl ≤ n) : rdC w L cs p n pl < 256 := by
  rw [← rd_cross hoc hp hpl (fun _ => 0) (fun _ => 0)]
  exact sbA_lt 8 0 0 (by omega) (by decide)
theorem pop_8 {x : Nat} (hx : x < 256) : pop x < 9 := by
  have := pop_lane (a := x) (b := 0) hx (by decide)
  rw [Nat.mul_zero, Nat.add_zero, pop_zero, Nat.add_zero] at this
  rw [this]
  have := cntF_le (fun j => x.testBit j) 8 0
  omega
theorem q_cross (n : Nat) (cs : Nat → Nat) (L w : Nat) (R Z : Nat → Nat) (p what : Int32) (hn : n ≤ 40) : aCrossM n cs L w R Z p what = aCross n cs L w p what := by
  unfold aCrossM aCross rfW rfC
  by_cases hp : 0 ≤ p ∧ p < 8
  · rw [if_pos hp, if_pos hp]
    by_cases hw : what = 0 ∨ what = 1
    · rw [if_pos hw, if_pos hw]
      by_cases hr : rfs n cs n = 0
      · rw [hr, if_pos rfl, gd_0]
        by_cases h40 : n < 40
        · rw [if_pos h40, if_pos h40, gd_0]
          obtain ⟨q, hq8, rfl, hqn⟩ := isP_of hp
          rw [hqn]
          have hoc := okC_of hr (Nat.le_refl _)
          have e : mnM (crF n cs L w R Z q) (n + 1) 0 none = some (mnC w L cs q n) := by
            unfold mnC
            exact mnM_mnA0 _ _ n 0 0 9 (fun j _ hj => crF_rdC hoc hq8 R Z j (by omega)) (pop_8 (rdA_256 hoc hq8 (by omega)))
          rw [e]
          rfl
        · rw [if_neg h40, if_neg h40]
          rfl
      · rw [if_neg hr]
        unfold gd
        rw [if_neg hr, if_neg hr]
    · rw [if_neg hw, if_neg hw]
      rfl
  · rw [if_neg hp, if_neg hp]
    rfl
theorem pop_eq0 {x : Nat} (hx : x < 2 ^ 62) : pop x = 0 ↔ x = 0 := by
  constructor
  · intro h
    rcases Nat.eq_zero_or_pos x with q | q
    · exact q
    · have := (pop_clear 62 x hx (by decide) q).1; omega
  · rintro rfl; exact pop_zero
theorem q_unseen (n : Nat) (cs : Nat → Nat) (L w : Nat) (R Z : Nat → Nat) (p : Int32) (hn : n ≤ 40) : aUnseenM n cs L w R Z p = aUnseen n cs L w p := by
  unfold aUnseenM aUnseen rfC
  by_cases hp : 0 ≤ p ∧ p < 8
  · rw [if_pos hp, if_pos hp, if_pos (Or.inl rfl)]
    by_cases hr : rfs n cs n = 0
    · rw [hr, if_pos rfl, gd_0]
      by_cases h40 : n < 40
      · rw [if_pos h40, if_pos h40, gd_0]
        obtain ⟨q, hq8, rfl, hqn⟩ := isP_of hp
        rw [hqn]
        have hoc := okC_of hr (Nat.le_refl _)
        have hcn : cntF (fun i => crF n cs L w R Z q i == 0) (n + 1) 0 = cntF (fun i => rdC w L cs q n i == 0) (n + 1) 0 := by
         refine cntF_cong _ _ (fun j _ hj => ?_)
         rw [crF_rdC hoc hq8 R Z j (by omega)]
         have hlt := rdA_256 (w := w) (L := L) (pl := j) hoc hq8 (by omega)
         by_cases hz : rdC w L cs q n j = 0
         · rw [hz, pop_zero]
         · have := mt (pop_eq0 (by omega)).mp hz
           rw [beq_eq_false_iff_ne.mpr this, beq_eq_false_iff_ne.mpr hz]
        rw [hcn]
      · rw [if_neg h40, if_neg h40]
        rfl
    · rw [if_neg hr]
      unfold gd
      rw [if_neg hr, if_neg hr]
  · rw [if_neg hp, if_neg hp]
    rfl
/-! gone, out, drawn -/
theorem need_nm {c p : Nat} {b b' : Bd} (h : nm b = nm b') : need c p b = need c p b' := by unfold need; rw [bfind_nm h]
theorem pout_need {w L p : Nat} (hL : 1 ≤ L) (hp : p ≠ 8) : ∀ (f : Nat) (b : Bd), b.length ≤ cap w L → need (cap w L) p b ≤ f → (pout w L p f b).1 = need (cap w L) p b
  | 0, b, hb, hf => by unfold pout; omega
  | f + 1, b, hb, hf => by
    unfold pout
    by_cases hh : bhas p b = true
    · have hne : need (cap w L) p b ≠ 0 := fun z => by
        have := (need_0 hb).mp z
        unfold bhas at hh; rw [this] at hh; cases hh
      have e := bw_boy (t := 0) hL hb
      have hnb : need (cap w L) p (bw w L (8, 0) b) = need (cap w L) p b - 1 := by rw [e]; exact need_boy (fun z => hp z.symm) hb
      rw [if_pos hh]
      have ih := pout_need hL hp f (bw w L (8, 0) b) (bw_capL hL hb) (by omega)
      show (pout w L p f (bw w L (8, 0) b)).1 + 1 = _
      omega
    · rw [if_neg hh]
      have : bfind p b = none := by
        unfold bhas at hh
        cases hz : bfind p b with
        | none => rfl
        | some z => rw [hz] at hh; exact absurd rfl hh
      show 0 = _
      exact ((need_0 hb).mpr this).symm
theorem need_le {c p : Nat} {b : Bd} : need c p b ≤ c := by unfold need; split <;> omega
theorem q_gone (n : Nat) (cs : Nat → Nat) (L w : Nat) (p : Int32) (hL : 1 ≤ L) : aGoneM n cs L w p = aGone n cs L w p := by
  unfold aGoneM aGone rfP
  by_cases hp : 0 ≤ p ∧ p < 8
  · rw [if_pos hp, if_pos hp]
    refine gd_c (fun hr => ?_)
    obtain ⟨q, hq8, rfl, hqn⟩ := isP_of hp
    rw [hqn]
    have hoc := okC_of hr (Nat.le_refl _)
    rw [pout_need hL (by omega) L _ (bdR_capL hL n) (Nat.le_trans need_le (cap_le hL))]
    rw [need_nm (b := bdR w L cs n) (b' := mR w L (dvF cs) n) (by rw [bdR_mR hoc n (Nat.le_refl _), nm_tg])]
  · rw [if_neg hp, if_neg hp]
    rfl
theorem wevA_bit {e : Nat} : ∀ (b : Bd) (a : Nat), (wevA a (b.map tg)).testBit e = (a.testBit e || stB e b)
  | [], a => by show a.testBit e = (a.testBit e || false); rw [Bool.or_false]
  | q :: b, a => by
    rw [List.map_cons, wevA, wevA_bit b]
    have h1 : (tg q).2 = q.2 + 1 := rfl
    rw [h1, if_neg (by omega), show q.2 + 1 - 1 = q.2 by omega, bit_or_pow, Bool.or_assoc]
    congr 1
theorem wev_bit (e : Nat) (b : Bd) : (wev (b.map tg)).testBit e = stB e b := by
  unfold wev
  rw [wevA_bit, Nat.zero_testBit, Bool.false_or]
theorem ot_eq {w L : Nat} {cs : Nat → Nat} {n e : Nat} (hoc : okC n cs) : ∀ (f i : Nat) (b : Bd), i + f ≤ n → otM w L (dvF cs) e f i b = otA w L cs e f i (b.map tg)
  | 0, _, _, _ => rfl
  | f + 1, i, b, hi => by
    unfold otM otA
    rw [bst_mst hoc (by omega), wev_bit, ot_eq hoc f (i + 1) _ (by omega)]
theorem q_out (n : Nat) (cs : Nat → Nat) (L w : Nat) (e : Int32) : aOutM n cs L w e = aOut n cs L w e := by
  unfold aOutM aOut
  refine gd_c (fun hr => ?_)
  have hoc := okC_of hr (Nat.le_refl _)
  by_cases he : 0 ≤ e.toInt ∧ e.toInt < n
  · have hcd : cd n cs e = cs e.toInt.toNat := by unfold cd; rw [if_pos he]
    have hlt : e.toInt.toNat < n := by omega
    rw [hcd]
    rcases hoc e.toInt.toNat hlt with q | q
    · obtain ⟨e1, e2, -⟩ := dv_cr q
      rw [e1, if_pos ⟨he.1, he.2, by unfold dvF; omega⟩]
      dsimp only
      rw [ot_eq hoc _ _ _ (by omega), bdR_mR hoc _ (by omega)]
    · obtain ⟨e1, -, e2, -⟩ := dv_lk q
      rw [e1, if_neg (fun z => by have := z.2.2; unfold dvF at this; omega)]
  · have hcd : cd n cs e = 0 := by unfold cd; rw [if_neg he]
    rw [hcd, if_neg (fun z => he ⟨z.1, z.2.1⟩)]
    rfl
theorem dr_eq {w L : Nat} {p : Option Nat} : ∀ (f x : Nat) (b b' : Bd) (a : Nat), nm b = nm b' → (drM w L p f x b a).1 = (drA w L p f x b' a).1 ∧ nm (drM w L p f x b a).2 = nm (drA w L p f x b' a).2
  | 0, _, _, _, _, h => ⟨rfl, h⟩
  | f + 1, x, b, b', a, h => by
    unfold drM drA
    dsimp only
    have h2 : nm (bwM w L ((75 * x + 74) % 65537 % 8, 40) b) = nm (bw w L ((75 * x + 74) % 65537 % 8, 0) b') := by
      rw [bw_bwM (by show _ % 8 ≠ 8; omega)]
      exact bwM_nm h
    cases p with
    | none => exact dr_eq f _ _ _ _ h2
    | some q =>
      dsimp only
      rw [bhas_nm h2]
      exact dr_eq f _ _ _ _ h2
theorem q_drawn (n : Nat) (cs : Nat → Nat) (L w : Nat) (s m p : Int32) : aDrawnM n cs L w s m p = aDrawn n cs L w s m p := by
  unfold aDrawnM aDrawn
  split
  · split
    · refine gd_c (fun hr => ?_)
      have hoc := okC_of hr (Nat.le_refl _)
      unfold dwM dwR
      have := dr_eq (w := w) (L := L) (p := poI p) m.toInt.toNat s.toInt.toNat (mR w L (dvF cs) n) (bdR w L cs n) 0 (by rw [bdR_mR hoc n (Nat.le_refl _), nm_tg])
      rw [this.1, ppl_nm this.2]
    · rfl
  · rfl
