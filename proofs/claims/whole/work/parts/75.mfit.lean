/-- the value at the t-th ?, as a number -/
def flN (D : Dg) (dv : Nat → Nat) (t : Nat) : Nat := match nthP (askP D.2) (nI t) D.1 0 0 with
  | some k => dv k
  | none => 0
theorem nthP_some {P : Nat → Bool} {t : Nat} (ht : t < 2 ^ 31) : ∀ (f i c : Nat), c ≤ t → i + f < 2 ^ 31 → c ≤ i → t < c + cntF P f i → ∃ k, nthP P (nI t) f i c = some k ∧ i ≤ k ∧ k < i + f ∧ P k = true
  | 0, i, c, h1, _, _, h2 => by unfold cntF at h2; omega
  | f + 1, i, c, h1, h3, h4, h2 => by
    rw [show cntF P (f + 1) i = (if P i then 1 else 0) + cntF P f (i + 1) from rfl] at h2
    unfold nthP
    cases hp : P i with
    | true =>
      rw [hp, if_pos rfl] at h2
      rw [if_pos rfl]
      by_cases hc : nI c = nI t
      · exact ⟨i, by rw [if_pos hc], Nat.le_refl _, by omega, hp⟩
      · have hne : c ≠ t := fun e => hc (by rw [e])
        obtain ⟨k, e1, e2, e3, e4⟩ := nthP_some (P := P) ht f (i + 1) (c + 1) (by omega) (by omega) (by omega) (by omega)
        exact ⟨k, by rw [if_neg hc]; exact e1, by omega, by omega, e4⟩
    | false =>
      rw [hp, if_neg (by decide), Nat.zero_add] at h2
      rw [if_neg (by decide)]
      obtain ⟨k, e1, e2, e3, e4⟩ := nthP_some (P := P) ht f (i + 1) c h1 (by omega) (by omega) h2
      exact ⟨k, e1, by omega, by omega, e4⟩
theorem hdN_lt {cs : Nat → Nat} : ∀ (k left : Nat) (dv : Nat → Nat) (n : Nat), (∀ i, k ≤ i → i < n → cs i = 63 → dv i < 8) → ∀ i, i < n → cs i = 63 → hdN cs k left dv i < 8
  | 0, _, dv, n, h, i, hi, h63 => h i (Nat.zero_le _) hi h63
  | k + 1, left, dv, n, h, i, hi, h63 => by
    unfold hdN
    split
    · refine hdN_lt k _ _ n (fun j h1 h2 h3 => ?_) i hi h63
      unfold csU
      split
      · omega
      · exact h j (by omega) h2 h3
    · rename_i hne
      refine hdN_lt k _ _ n (fun j h1 h2 h3 => h j (by
        rcases Nat.lt_or_ge k j with z | z
        · exact z
        · have : j = k := by omega
          subst this; exact absurd h3 hne) h2 h3) i hi h63
theorem dvH_lt {n : Nat} {cs : Nat → Nat} {num : Nat} : ∀ i, i < n → cs i = 63 → dvH n cs num i < 8 := hdN_lt n num (dvF cs) n (fun i h1 h2 => by omega)
theorem flI_N {D : Dg} {num t : Nat} (hn : D.1 ≤ 40) (ht : t < akC D) : flI D (dvH D.1 D.2 num) (nI t) = nI (flN D (dvH D.1 D.2 num) t) ∧ flN D (dvH D.1 D.2 num) t < 8 := by
  have h40 : akC D ≤ D.1 := cntF_le _ _ _
  obtain ⟨k, e1, e2, e3, e4⟩ := nthP_some (P := askP D.2) (t := t) (by omega) D.1 0 0 (by omega) (by omega) (by omega) (by unfold akC at ht; omega)
  unfold flI flN
  rw [e1]
  exact ⟨rfl, dvH_lt k (by omega) (by unfold askP at e4; exact beq_iff_eq.mp e4)⟩
def coM (D : Dg) (T : Sg) (t : Nat) : Nat → Nat → Nat → Nat
  | 0, _, a => a
  | f + 1, i, a => coM D T t f (i + 1) (if holdsP D T i then a ||| 2 ^ flN D (dvH D.1 D.2 i) t else a)
set_option maxRecDepth 100000 in
set_option maxHeartbeats 4000000 in
theorem cM_could_loop (d : Nat) (h0 : x_H) {D : Dg} {T : Sg} {K kp : Nat → Nat} (hff : ff D.1 D.2 = none) (t : Nat) (ht : t < akC D) (all : Nat) (hall : all < 2 ^ 31) (Q : Option Value → x_H → Prop) :
    ∀ (f i a : Nat) (h : x_H), i + f = all → MS h D T K kp → fr29 h0 h → (∀ h', MS h' D T K kp → fr29 h0 h' → Q (some (.int (nI (coM D T t f i a)))) h') →
      x_V (d + 4) mX5_could 43 (x_ls [some (.ref 30), some (.int (nI t)), some (.int (nI a)), some (.int (nI all)), some (.int (nI i))]) [] h Q := by
  intro f
  induction f with
  | zero =>
    intro i a h hi hs hfr hq
    have hq := hq h hs hfr
    refine x_iload dX5_could_43 rfl ?_
    refine x_iload_n (i := 3) dX5_could_45 rfl rfl ?_
    refine x_icmp_ge 78 dX5_could_46 (by decide) (fun _ => ?_) (fun hc => absurd (nI_le (by omega) (by omega)) hc)
    refine x_iload_n (i := 2) dX5_could_78 rfl rfl ?_
    refine x_iret dX5_could_79 rfl hq
  | succ f ih =>
    intro i a h hi hs hfr hq
    obtain ⟨ok, od, hK, -⟩ := id hs
    unfold coM at hq
    have hfl := flI_N (num := i) od.1 ht
    obtain ⟨my, pl, lw, ev, bp, bi, nw, ka, iw, nf, wf, g, R, Z, pf, hM, -⟩ := id hs.2.2.2
    refine x_iload dX5_could_43 rfl ?_
    refine x_iload_n (i := 3) dX5_could_45 rfl rfl ?_
    refine x_icmp_ge 78 dX5_could_46 (by decide) (fun hc => absurd hc (nI_ge (by omega) (by omega))) (fun _ => ?_)
    refine x_iload_n (i := 2) dX5_could_49 rfl rfl ?_
    refine x_aload_n (i := 0) dX5_could_50 rfl rfl ?_
    refine x_iload dX5_could_51 rfl ?_
    refine x_invV clX5_199 dX5_could_53 (cM_holds d h hs hff i (by omega)) (by omega) rfl (by first | decide | assumption) (by first | assumption | exact x_up_s | (refine (x_up_n (by first | decide | assumption)).trans ?_; first | assumption | exact x_up_s | (refine (x_up_n (by first | decide | assumption)).trans ?_; first | assumption | exact x_up_s | (refine (x_up_n (by first | decide | assumption)).trans ?_; first | assumption | exact x_up_s | (refine (x_up_n (by first | decide | assumption)).trans ?_; first | assumption | exact x_up_s | (refine (x_up_n (by first | decide | assumption)).trans ?_; first | assumption | exact x_up_s | (refine (x_up_n (by first | decide | assumption)).trans ?_; first | assumption | exact x_up_s | (refine (x_up_n (by first | decide | assumption)).trans ?_; first | assumption | exact x_up_s | (refine (x_up_n (by first | decide | assumption)).trans ?_; first | assumption | exact x_up_s | (refine (x_up_n (by first | decide | assumption)).trans ?_; first | assumption | exact x_up_s | (refine (x_up_n (by first | decide | assumption)).trans ?_; first | assumption | exact x_up_s | (refine (x_up_n (by first | decide | assumption)).trans ?_; first | assumption | exact x_up_s | (refine (x_up_n (by first | decide | assumption)).trans ?_; first | assumption | exact x_up_s | (refine (x_up_n (by first | decide | assumption)).trans ?_; first | assumption | exact x_up_s)))))))))))))) rfl (Nat.le_of_ble_eq_true rfl) ?_
    rintro r h' ⟨rfl, hf2, g2, hs2, hy2⟩
    have hs3 := MY_MS ok od hK hs2
    obtain ⟨my2, pl2, lw2, bp2, bi2, nw2, ka2, iw2, nf2, wf2, R2, Z2, pf2, hM2, -⟩ := id hs2
    cases hb : holdsP D T i with
    | true =>
      simp only [hb, if_true] at hq
      refine x_if_eq 69 dX5_could_56 (by decide) (fun hc => absurd hc (by decide)) (fun _ => ?_)
      refine x_iconst (v := 1) dX5_could_59 (by decide) ?_
      refine x_aload_n (i := 0) dX5_could_60 rfl rfl ?_
      refine x_iload_n (i := 1) dX5_could_61 rfl rfl ?_
      refine x_invV clX5_202 dX5_could_62 (cM_filled (d + 3) h' od hs2 hy2 (nI t)) (by omega) rfl (by first | decide | assumption) (by first | assumption | exact x_up_s | (refine (x_up_n (by first | decide | assumption)).trans ?_; first | assumption | exact x_up_s | (refine (x_up_n (by first | decide | assumption)).trans ?_; first | assumption | exact x_up_s | (refine (x_up_n (by first | decide | assumption)).trans ?_; first | assumption | exact x_up_s | (refine (x_up_n (by first | decide | assumption)).trans ?_; first | assumption | exact x_up_s | (refine (x_up_n (by first | decide | assumption)).trans ?_; first | assumption | exact x_up_s | (refine (x_up_n (by first | decide | assumption)).trans ?_; first | assumption | exact x_up_s | (refine (x_up_n (by first | decide | assumption)).trans ?_; first | assumption | exact x_up_s | (refine (x_up_n (by first | decide | assumption)).trans ?_; first | assumption | exact x_up_s | (refine (x_up_n (by first | decide | assumption)).trans ?_; first | assumption | exact x_up_s | (refine (x_up_n (by first | decide | assumption)).trans ?_; first | assumption | exact x_up_s | (refine (x_up_n (by first | decide | assumption)).trans ?_; first | assumption | exact x_up_s | (refine (x_up_n (by first | decide | assumption)).trans ?_; first | assumption | exact x_up_s | (refine (x_up_n (by first | decide | assumption)).trans ?_; first | assumption | exact x_up_s)))))))))))))) rfl (Nat.le_of_ble_eq_true rfl) ?_
      rintro r h'' ⟨rfl, rfl⟩
      rw [hfl.1]
      refine x_ishl dX5_could_65 ?_
      refine x_topi (n_one_shl _ (by omega)) ?_
      refine x_goto 70 dX5_could_66 (by decide) ?_
      refine x_ior dX5_could_70 ?_
      refine x_topi (n_or _ _) ?_
      refine x_istore_n (i := 2) dX5_could_71 rfl (by decide) ?_
      first | refine x_incN dX5_could_72 rfl (by decide) ?_ | refine x_iinc dX5_could_72 rfl rfl (by decide) ?_
      refine x_goto 43 dX5_could_75 (by decide) ?_
      exact x_wk (ih (i + 1) _ h'' (by omega) hs3 (fr29_tr hfr hf2) hq) ⟨rfl, rfl, rfl, rfl, rfl, trivial⟩
    | false =>
      simp only [hb, Bool.false_eq_true, if_false] at hq
      refine x_if_eq 69 dX5_could_56 (by decide) (fun _ => ?_) (fun hc => absurd (rfl) hc)
      refine x_iconst (v := 0) dX5_could_69 (by decide) ?_
      refine x_ior dX5_could_70 ?_
      refine x_topi (nI_or0 a) ?_
      refine x_istore_n (i := 2) dX5_could_71 rfl (by decide) ?_
      first | refine x_incN dX5_could_72 rfl (by decide) ?_ | refine x_iinc dX5_could_72 rfl rfl (by decide) ?_
      refine x_goto 43 dX5_could_75 (by decide) ?_
      exact x_wk (ih (i + 1) a h' (by omega) hs3 (fr29_tr hfr hf2) hq) ⟨rfl, rfl, rfl, rfl, rfl, trivial⟩
def aCouldM (D : Dg) (T : Sg) (t : Int32) : Int32 := match ff D.1 D.2 with
  | some _ => -5
  | none => if 0 ≤ t.toInt ∧ t.toInt < akC D then nI (coM D T t.toInt.toNat (2 ^ (3 * akC D)) 0 0) else -6
set_option maxRecDepth 100000 in
set_option maxHeartbeats 4000000 in
theorem pM_could (d : Nat) (h : x_H) {D : Dg} {T : Sg} {K kp : Nat → Nat} (hs : MS h D T K kp) (t : Int32) : x_Ct (d + 5) mX5_could [.ref 30, .int t] h (ME h (aCouldM D T t) D T K kp) := by
  obtain ⟨ok, od, hK, my, pl, lw, ev, bp, bi, nw, ka, iw, nf, wf, g, R, Z, pf, hM, ⟨t1, t2, t3⟩, hG, ⟨hN, hW⟩, hY, ⟨hR, hZ⟩, hP, hkp, hik, hnf, hwf, hz1⟩ := id hs
  have hn := od.1
  have hf0 := fI_lt0 (o := ff D.1 D.2) (fun p hp => by have := ffA_lt D.2 _ _ _ _ hp; omega)
  unfold aCouldM
  refine x_enter pnX5_could (Nat.le_of_ble_eq_true rfl) ?_
  refine x_aload_n (i := 0) dX5_could_0 rfl rfl ?_
  refine x_invV clX5_86 dX5_could_1 (cM_fault (d + 2) h hM hG od) (by omega) rfl (by first | decide | assumption) (by first | assumption | exact x_up_s | (refine (x_up_n (by first | decide | assumption)).trans ?_; first | assumption | exact x_up_s | (refine (x_up_n (by first | decide | assumption)).trans ?_; first | assumption | exact x_up_s | (refine (x_up_n (by first | decide | assumption)).trans ?_; first | assumption | exact x_up_s | (refine (x_up_n (by first | decide | assumption)).trans ?_; first | assumption | exact x_up_s | (refine (x_up_n (by first | decide | assumption)).trans ?_; first | assumption | exact x_up_s | (refine (x_up_n (by first | decide | assumption)).trans ?_; first | assumption | exact x_up_s | (refine (x_up_n (by first | decide | assumption)).trans ?_; first | assumption | exact x_up_s | (refine (x_up_n (by first | decide | assumption)).trans ?_; first | assumption | exact x_up_s | (refine (x_up_n (by first | decide | assumption)).trans ?_; first | assumption | exact x_up_s | (refine (x_up_n (by first | decide | assumption)).trans ?_; first | assumption | exact x_up_s | (refine (x_up_n (by first | decide | assumption)).trans ?_; first | assumption | exact x_up_s | (refine (x_up_n (by first | decide | assumption)).trans ?_; first | assumption | exact x_up_s | (refine (x_up_n (by first | decide | assumption)).trans ?_; first | assumption | exact x_up_s)))))))))))))) rfl (Nat.le_of_ble_eq_true rfl) ?_
  rintro r h' ⟨rfl, rfl⟩
  cases hff : ff D.1 D.2 with
  | some z =>
    rw [hff] at hf0
    refine x_if_lt 10 dX5_could_4 (by decide) (fun hc => absurd hc (fun q => absurd (hf0.mp q) (by simp))) (fun _ => ?_)
    refine x_bipush (v := (-5)) dX5_could_7 (by decide) ?_
    refine x_iret dX5_could_9 rfl ⟨rfl, hs, fr29_rf⟩
  | none =>
    rw [hff] at hf0
    have h4 := akC_4 hff
    have hpw : 2 ^ (3 * akC D) ≤ 2 ^ 12 := Nat.pow_le_pow_right (by decide) (by omega)
    dsimp only
    refine x_if_lt 10 dX5_could_4 (by decide) (fun _ => ?_) (fun hc => absurd (hf0.mpr rfl) hc)
    refine x_iload_n (i := 1) dX5_could_10 rfl rfl ?_
    refine x_i2l dX5_could_11 ?_
    refine x_lconst (v := 0) dX5_could_12 (by decide) ?_
    refine x_aload_n (i := 0) dX5_could_13 rfl rfl ?_
    refine x_aload_n (i := 0) dX5_could_14 rfl rfl ?_
    refine x_get flX5_68 dX5_could_15 (by first | decide | assumption) (by first | assumption | exact x_up_s | (refine (x_up_n (by first | decide | assumption)).trans ?_; first | assumption | exact x_up_s | (refine (x_up_n (by first | decide | assumption)).trans ?_; first | assumption | exact x_up_s | (refine (x_up_n (by first | decide | assumption)).trans ?_; first | assumption | exact x_up_s | (refine (x_up_n (by first | decide | assumption)).trans ?_; first | assumption | exact x_up_s | (refine (x_up_n (by first | decide | assumption)).trans ?_; first | assumption | exact x_up_s | (refine (x_up_n (by first | decide | assumption)).trans ?_; first | assumption | exact x_up_s | (refine (x_up_n (by first | decide | assumption)).trans ?_; first | assumption | exact x_up_s | (refine (x_up_n (by first | decide | assumption)).trans ?_; first | assumption | exact x_up_s | (refine (x_up_n (by first | decide | assumption)).trans ?_; first | assumption | exact x_up_s | (refine (x_up_n (by first | decide | assumption)).trans ?_; first | assumption | exact x_up_s | (refine (x_up_n (by first | decide | assumption)).trans ?_; first | assumption | exact x_up_s | (refine (x_up_n (by first | decide | assumption)).trans ?_; first | assumption | exact x_up_s | (refine (x_up_n (by first | decide | assumption)).trans ?_; first | assumption | exact x_up_s)))))))))))))) rfl ?_
    refine x_invV clX5_90 dX5_could_18 (cM_untold (d + 3) _ hM hG od.2 D.1 hn) (by omega) rfl (by first | decide | assumption) (by first | assumption | exact x_up_s | (refine (x_up_n (by first | decide | assumption)).trans ?_; first | assumption | exact x_up_s | (refine (x_up_n (by first | decide | assumption)).trans ?_; first | assumption | exact x_up_s | (refine (x_up_n (by first | decide | assumption)).trans ?_; first | assumption | exact x_up_s | (refine (x_up_n (by first | decide | assumption)).trans ?_; first | assumption | exact x_up_s | (refine (x_up_n (by first | decide | assumption)).trans ?_; first | assumption | exact x_up_s | (refine (x_up_n (by first | decide | assumption)).trans ?_; first | assumption | exact x_up_s | (refine (x_up_n (by first | decide | assumption)).trans ?_; first | assumption | exact x_up_s | (refine (x_up_n (by first | decide | assumption)).trans ?_; first | assumption | exact x_up_s | (refine (x_up_n (by first | decide | assumption)).trans ?_; first | assumption | exact x_up_s | (refine (x_up_n (by first | decide | assumption)).trans ?_; first | assumption | exact x_up_s | (refine (x_up_n (by first | decide | assumption)).trans ?_; first | assumption | exact x_up_s | (refine (x_up_n (by first | decide | assumption)).trans ?_; first | assumption | exact x_up_s | (refine (x_up_n (by first | decide | assumption)).trans ?_; first | assumption | exact x_up_s)))))))))))))) rfl (Nat.le_of_ble_eq_true rfl) ?_
    rintro r h'' ⟨rfl, rfl⟩
    rw [show cntF (askP D.2) D.1 0 = akC D from rfl]
    refine x_iconst (v := 1) dX5_could_21 (by decide) ?_
    refine x_isub dX5_could_22 ?_
    refine x_i2l dX5_could_23 ?_
    refine x_invS clX5_53 dX5_could_24 (cM_in (d + 3) _ _ _ _) (by omega) rfl rfl (Nat.le_of_ble_eq_true rfl) ?_
    rintro r h'' ⟨rfl, rfl⟩
    refine x_topi (y := if 0 ≤ t.toInt ∧ t.toInt < akC D then 1 else 0) ?_ ?_
    · have hm1 : ((nI (akC D) - 1).toInt64).toInt = (akC D : Int) - 1 := by
        rw [Int32.toInt_toInt64]
        rcases Nat.eq_zero_or_pos (akC D) with q | q
        · rw [q]; rfl
        · rw [show nI (akC D) - 1 = nI (akC D - 1) from pk_sub (b := 1) (by omega), nI_toInt (by omega)]; omega
      rw [in_lit (i := 0) (j := (akC D : Int) - 1) rfl hm1]
      by_cases q : 0 ≤ t.toInt ∧ t.toInt < akC D
      · rw [if_pos q, if_pos (by omega)]
      · rw [if_neg q, if_neg (by omega)]
    by_cases ht : 0 ≤ t.toInt ∧ t.toInt < akC D
    · rw [if_pos ht, if_pos ht]
      obtain ⟨et, ht31⟩ := i_nat ht.1
      have htn : t.toInt.toNat < akC D := by omega
      generalize t.toInt.toNat = tn at et htn
      subst et
      refine x_if_ne 33 dX5_could_27 (by decide) (fun _ => ?_) (fun hc => absurd hc (by decide))
      refine x_iconst (v := 0) dX5_could_33 (by decide) ?_
      refine x_istore_n (i := 2) dX5_could_34 rfl (by decide) ?_
      refine x_aload_n (i := 0) dX5_could_35 rfl rfl ?_
      refine x_invV clX5_196 dX5_could_36 (cM_ways (d + 3) h'' hs hff) (by omega) rfl (by first | decide | assumption) (by first | assumption | exact x_up_s | (refine (x_up_n (by first | decide | assumption)).trans ?_; first | assumption | exact x_up_s | (refine (x_up_n (by first | decide | assumption)).trans ?_; first | assumption | exact x_up_s | (refine (x_up_n (by first | decide | assumption)).trans ?_; first | assumption | exact x_up_s | (refine (x_up_n (by first | decide | assumption)).trans ?_; first | assumption | exact x_up_s | (refine (x_up_n (by first | decide | assumption)).trans ?_; first | assumption | exact x_up_s | (refine (x_up_n (by first | decide | assumption)).trans ?_; first | assumption | exact x_up_s | (refine (x_up_n (by first | decide | assumption)).trans ?_; first | assumption | exact x_up_s | (refine (x_up_n (by first | decide | assumption)).trans ?_; first | assumption | exact x_up_s | (refine (x_up_n (by first | decide | assumption)).trans ?_; first | assumption | exact x_up_s | (refine (x_up_n (by first | decide | assumption)).trans ?_; first | assumption | exact x_up_s | (refine (x_up_n (by first | decide | assumption)).trans ?_; first | assumption | exact x_up_s | (refine (x_up_n (by first | decide | assumption)).trans ?_; first | assumption | exact x_up_s | (refine (x_up_n (by first | decide | assumption)).trans ?_; first | assumption | exact x_up_s)))))))))))))) rfl (Nat.le_of_ble_eq_true rfl) ?_
      rintro r h3 ⟨rfl, rfl⟩
      generalize 2 ^ (3 * akC D) = all at hpw ⊢
      refine x_istore_n (i := 3) dX5_could_39 rfl (by decide) ?_
      refine x_iconst (v := 0) dX5_could_40 (by decide) ?_
      refine x_istore dX5_could_41 (by decide) ?_
      exact x_wk (cM_could_loop (d + 1) h3 hff tn htn all (by omega) _ all 0 0 h3 (by omega) hs fr29_rf (fun h9 a1 a2 => ⟨rfl, a1, a2⟩)) ⟨rfl, rfl, rfl, rfl, rfl, trivial⟩
    · rw [if_neg ht, if_neg ht]
      refine x_if_ne 33 dX5_could_27 (by decide) (fun hc => absurd (rfl) hc) (fun _ => ?_)
      refine x_bipush (v := (-6)) dX5_could_30 (by decide) ?_
      refine x_iret dX5_could_32 rfl ⟨rfl, hs, fr29_rf⟩
/-- the day has a crossing of p -/
def crB (n : Nat) (dv : Nat → Nat) (p : Nat) : Bool := anyF (fun k => dv k == p) n 0
set_option maxRecDepth 100000 in
set_option maxHeartbeats 4000000 in
theorem cM_cr_loop (d : Nat) (h : x_H) {sz ru si pm my pl lw bp bi nw ka iw : Int32} {e : Nat} (hM : h 30 = x_md sz ru si pm my pl lw (nI e) bp bi nw ka iw) {g : Nat → Int32} {dv : Nat → Nat} (hY : h 37 = x_ia 41 g) (he : e ≤ 41) (hy : okY e g dv) (p : Nat) (hp : p < 8) (i2 i3 i4 : Int32) (Q : Option Value → x_H → Prop) (r9 : Bool)
    (K : x_V d mX5_alibi 88 (x_ls [some (.ref 30), some (.int (nI p)), some (.int i2), some (.int i3), some (.int i4), some (.int (b2I r9))]) [] h Q) :
    ∀ (f k : Nat) (a : Bool), k + f = e → (a || anyF (fun k => dv k == p) f k) = r9 → x_V d mX5_alibi 50 (x_ls [some (.ref 30), some (.int (nI p)), some (.int i2), some (.int i3), some (.int i4), some (.int (b2I a)), some (.int (nI k))]) [] h Q := by
  intro f
  induction f with
  | zero =>
    intro k a hk ha
    unfold anyF at ha
    rw [Bool.or_false] at ha
    subst ha
    refine x_iload dX5_alibi_50 rfl ?_
    refine x_aload_n (i := 0) dX5_alibi_52 rfl rfl ?_
    refine x_get flX5_110 dX5_alibi_53 (by first | decide | assumption) (by first | assumption | exact x_up_s | (refine (x_up_n (by first | decide | assumption)).trans ?_; first | assumption | exact x_up_s | (refine (x_up_n (by first | decide | assumption)).trans ?_; first | assumption | exact x_up_s | (refine (x_up_n (by first | decide | assumption)).trans ?_; first | assumption | exact x_up_s | (refine (x_up_n (by first | decide | assumption)).trans ?_; first | assumption | exact x_up_s | (refine (x_up_n (by first | decide | assumption)).trans ?_; first | assumption | exact x_up_s | (refine (x_up_n (by first | decide | assumption)).trans ?_; first | assumption | exact x_up_s | (refine (x_up_n (by first | decide | assumption)).trans ?_; first | assumption | exact x_up_s | (refine (x_up_n (by first | decide | assumption)).trans ?_; first | assumption | exact x_up_s | (refine (x_up_n (by first | decide | assumption)).trans ?_; first | assumption | exact x_up_s | (refine (x_up_n (by first | decide | assumption)).trans ?_; first | assumption | exact x_up_s | (refine (x_up_n (by first | decide | assumption)).trans ?_; first | assumption | exact x_up_s | (refine (x_up_n (by first | decide | assumption)).trans ?_; first | assumption | exact x_up_s | (refine (x_up_n (by first | decide | assumption)).trans ?_; first | assumption | exact x_up_s)))))))))))))) rfl ?_
    refine x_icmp_ge 88 dX5_alibi_56 (by decide) (fun _ => ?_) (fun hc => absurd (nI_le (by omega) (by omega)) hc)
    exact x_wk K ⟨rfl, rfl, rfl, rfl, rfl, rfl, trivial⟩
  | succ f ih =>
    intro k a hk ha
    obtain ⟨hg, hdv⟩ := hy k (by omega)
    unfold anyF at ha
    rw [← Bool.or_assoc] at ha
    have yes : (a || (dv k == p)) = true → x_V d mX5_alibi 75 (x_ls [some (.ref 30), some (.int (nI p)), some (.int i2), some (.int i3), some (.int i4), some (.int (b2I a)), some (.int (nI k))]) [] h Q := by
      intro h1
      rw [h1] at ha
      refine x_iconst (v := 1) dX5_alibi_75 (by decide) ?_
      refine x_goto 80 dX5_alibi_76 (by decide) ?_
      refine x_istore dX5_alibi_80 (by decide) ?_
      first | refine x_incN dX5_alibi_82 rfl (by decide) ?_ | refine x_iinc dX5_alibi_82 rfl rfl (by decide) ?_
      refine x_goto 50 dX5_alibi_85 (by decide) ?_
      exact x_wk (ih (k + 1) true (by omega) ha) ⟨rfl, rfl, rfl, rfl, rfl, rfl, rfl, trivial⟩
    refine x_iload dX5_alibi_50 rfl ?_
    refine x_aload_n (i := 0) dX5_alibi_52 rfl rfl ?_
    refine x_get flX5_110 dX5_alibi_53 (by first | decide | assumption) (by first | assumption | exact x_up_s | (refine (x_up_n (by first | decide | assumption)).trans ?_; first | assumption | exact x_up_s | (refine (x_up_n (by first | decide | assumption)).trans ?_; first | assumption | exact x_up_s | (refine (x_up_n (by first | decide | assumption)).trans ?_; first | assumption | exact x_up_s | (refine (x_up_n (by first | decide | assumption)).trans ?_; first | assumption | exact x_up_s | (refine (x_up_n (by first | decide | assumption)).trans ?_; first | assumption | exact x_up_s | (refine (x_up_n (by first | decide | assumption)).trans ?_; first | assumption | exact x_up_s | (refine (x_up_n (by first | decide | assumption)).trans ?_; first | assumption | exact x_up_s | (refine (x_up_n (by first | decide | assumption)).trans ?_; first | assumption | exact x_up_s | (refine (x_up_n (by first | decide | assumption)).trans ?_; first | assumption | exact x_up_s | (refine (x_up_n (by first | decide | assumption)).trans ?_; first | assumption | exact x_up_s | (refine (x_up_n (by first | decide | assumption)).trans ?_; first | assumption | exact x_up_s | (refine (x_up_n (by first | decide | assumption)).trans ?_; first | assumption | exact x_up_s | (refine (x_up_n (by first | decide | assumption)).trans ?_; first | assumption | exact x_up_s)))))))))))))) rfl ?_
    refine x_icmp_ge 88 dX5_alibi_56 (by decide) (fun hc => absurd hc (nI_ge (by omega) (by omega))) (fun _ => ?_)
    refine x_iload dX5_alibi_59 rfl ?_
    cases a with
    | true =>
      refine x_if_ne 75 dX5_alibi_61 (by decide) (fun _ => ?_) (fun hc => absurd hc (by decide))
      exact x_wk (yes rfl) ⟨rfl, rfl, rfl, rfl, rfl, rfl, rfl, trivial⟩
    | false =>
      refine x_if_ne 75 dX5_alibi_61 (by decide) (fun hc => absurd (rfl) hc) (fun _ => ?_)
      refine x_aload_n (i := 0) dX5_alibi_64 rfl rfl ?_
      refine x_get flX5_28 dX5_alibi_65 (by first | decide | assumption) (by first | assumption | exact x_up_s | (refine (x_up_n (by first | decide | assumption)).trans ?_; first | assumption | exact x_up_s | (refine (x_up_n (by first | decide | assumption)).trans ?_; first | assumption | exact x_up_s | (refine (x_up_n (by first | decide | assumption)).trans ?_; first | assumption | exact x_up_s | (refine (x_up_n (by first | decide | assumption)).trans ?_; first | assumption | exact x_up_s | (refine (x_up_n (by first | decide | assumption)).trans ?_; first | assumption | exact x_up_s | (refine (x_up_n (by first | decide | assumption)).trans ?_; first | assumption | exact x_up_s | (refine (x_up_n (by first | decide | assumption)).trans ?_; first | assumption | exact x_up_s | (refine (x_up_n (by first | decide | assumption)).trans ?_; first | assumption | exact x_up_s | (refine (x_up_n (by first | decide | assumption)).trans ?_; first | assumption | exact x_up_s | (refine (x_up_n (by first | decide | assumption)).trans ?_; first | assumption | exact x_up_s | (refine (x_up_n (by first | decide | assumption)).trans ?_; first | assumption | exact x_up_s | (refine (x_up_n (by first | decide | assumption)).trans ?_; first | assumption | exact x_up_s | (refine (x_up_n (by first | decide | assumption)).trans ?_; first | assumption | exact x_up_s)))))))))))))) rfl ?_
      refine x_iload dX5_alibi_68 rfl ?_
      refine x_iald k dX5_alibi_70 (by first | decide | assumption) (by first | assumption | exact x_up_s | (refine (x_up_n (by first | decide | assumption)).trans ?_; first | assumption | exact x_up_s | (refine (x_up_n (by first | decide | assumption)).trans ?_; first | assumption | exact x_up_s | (refine (x_up_n (by first | decide | assumption)).trans ?_; first | assumption | exact x_up_s | (refine (x_up_n (by first | decide | assumption)).trans ?_; first | assumption | exact x_up_s | (refine (x_up_n (by first | decide | assumption)).trans ?_; first | assumption | exact x_up_s | (refine (x_up_n (by first | decide | assumption)).trans ?_; first | assumption | exact x_up_s | (refine (x_up_n (by first | decide | assumption)).trans ?_; first | assumption | exact x_up_s | (refine (x_up_n (by first | decide | assumption)).trans ?_; first | assumption | exact x_up_s | (refine (x_up_n (by first | decide | assumption)).trans ?_; first | assumption | exact x_up_s | (refine (x_up_n (by first | decide | assumption)).trans ?_; first | assumption | exact x_up_s | (refine (x_up_n (by first | decide | assumption)).trans ?_; first | assumption | exact x_up_s | (refine (x_up_n (by first | decide | assumption)).trans ?_; first | assumption | exact x_up_s | (refine (x_up_n (by first | decide | assumption)).trans ?_; first | assumption | exact x_up_s)))))))))))))) rfl (by omega) (by decide) ?_
      rw [hg]
      refine x_iload_n (i := 1) dX5_alibi_71 rfl rfl ?_
      by_cases hw : dv k = p
      · refine x_icmp_ne 79 dX5_alibi_72 (by decide) (fun hc => absurd (by rw [hw]) hc) (fun _ => ?_)
        exact x_wk (yes (by rw [hw]; simp)) ⟨rfl, rfl, rfl, rfl, rfl, rfl, rfl, trivial⟩
      · have : (false || (dv k == p)) = false := by rw [Bool.false_or, beq_eq_false_iff_ne]; exact hw
        rw [this] at ha
        refine x_icmp_ne 79 dX5_alibi_72 (by decide) (fun _ => ?_) (fun hc => absurd hc (fun q => hw (nI_inj (by omega) (by omega) q)))
        refine x_iconst (v := 0) dX5_alibi_79 (by decide) ?_
        refine x_istore dX5_alibi_80 (by decide) ?_
        first | refine x_incN dX5_alibi_82 rfl (by decide) ?_ | refine x_iinc dX5_alibi_82 rfl rfl (by decide) ?_
        refine x_goto 50 dX5_alibi_85 (by decide) ?_
        exact x_wk (ih (k + 1) false (by omega) ha) ⟨rfl, rfl, rfl, rfl, rfl, rfl, rfl, trivial⟩
def alP (D : Dg) (T : Sg) (p num : Nat) : Bool := holdsP D T num && crB D.1 (dvH D.1 D.2 num) p
set_option maxRecDepth 100000 in
set_option maxHeartbeats 4000000 in
theorem cM_alibi_loop (d : Nat) (h0 : x_H) {D : Dg} {T : Sg} {K kp : Nat → Nat} (hff : ff D.1 D.2 = none) (p : Nat) (hp : p < 8) (all : Nat) (hall : all < 2 ^ 31) (Q : Option Value → x_H → Prop) :
    ∀ (f i a : Nat) (h : x_H), i + f = all → MS h D T K kp → fr29 h0 h → (∀ h', MS h' D T K kp → fr29 h0 h' → Q (some (.int (nI (a + cntF (alP D T p) f i)))) h') →
      x_V (d + 4) mX5_alibi 29 (x_ls [some (.ref 30), some (.int (nI p)), some (.int (nI a)), some (.int (nI all)), some (.int (nI i))]) [] h Q := by
  intro f
  induction f with
  | zero =>
    intro i a h hi hs hfr hq
    have hq := hq h hs hfr
    refine x_iload dX5_alibi_29 rfl ?_
    refine x_iload_n (i := 3) dX5_alibi_31 rfl rfl ?_
    refine x_icmp_ge 107 dX5_alibi_32 (by decide) (fun _ => ?_) (fun hc => absurd (nI_le (by omega) (by omega)) hc)
    refine x_iload_n (i := 2) dX5_alibi_107 rfl rfl ?_
    refine x_iret dX5_alibi_108 rfl hq
  | succ f ih =>
    intro i a h hi hs hfr hq
    obtain ⟨ok, od, hK, -⟩ := id hs
    have hn := od.1
    rw [show cntF (alP D T p) (f + 1) i = (if alP D T p i then 1 else 0) + cntF (alP D T p) f (i + 1) from rfl] at hq
    obtain ⟨my, pl, lw, ev, bp, bi, nw, ka, iw, nf, wf, g, R, Z, pf, hM, -⟩ := id hs.2.2.2
    refine x_iload dX5_alibi_29 rfl ?_
    refine x_iload_n (i := 3) dX5_alibi_31 rfl rfl ?_
    refine x_icmp_ge 107 dX5_alibi_32 (by decide) (fun hc => absurd hc (nI_ge (by omega) (by omega))) (fun _ => ?_)
    refine x_aload_n (i := 0) dX5_alibi_35 rfl rfl ?_
    refine x_iload dX5_alibi_36 rfl ?_
    refine x_invV clX5_199 dX5_alibi_38 (cM_holds d h hs hff i (by omega)) (by omega) rfl (by first | decide | assumption) (by first | assumption | exact x_up_s | (refine (x_up_n (by first | decide | assumption)).trans ?_; first | assumption | exact x_up_s | (refine (x_up_n (by first | decide | assumption)).trans ?_; first | assumption | exact x_up_s | (refine (x_up_n (by first | decide | assumption)).trans ?_; first | assumption | exact x_up_s | (refine (x_up_n (by first | decide | assumption)).trans ?_; first | assumption | exact x_up_s | (refine (x_up_n (by first | decide | assumption)).trans ?_; first | assumption | exact x_up_s | (refine (x_up_n (by first | decide | assumption)).trans ?_; first | assumption | exact x_up_s | (refine (x_up_n (by first | decide | assumption)).trans ?_; first | assumption | exact x_up_s | (refine (x_up_n (by first | decide | assumption)).trans ?_; first | assumption | exact x_up_s | (refine (x_up_n (by first | decide | assumption)).trans ?_; first | assumption | exact x_up_s | (refine (x_up_n (by first | decide | assumption)).trans ?_; first | assumption | exact x_up_s | (refine (x_up_n (by first | decide | assumption)).trans ?_; first | assumption | exact x_up_s | (refine (x_up_n (by first | decide | assumption)).trans ?_; first | assumption | exact x_up_s | (refine (x_up_n (by first | decide | assumption)).trans ?_; first | assumption | exact x_up_s)))))))))))))) rfl (Nat.le_of_ble_eq_true rfl) ?_
    rintro r h' ⟨rfl, hf2, g2, hs2, hy2⟩
    have hs3 := MY_MS ok od hK hs2
    obtain ⟨my2, pl2, lw2, bp2, bi2, nw2, ka2, iw2, nf2, wf2, R2, Z2, pf2, hM2, -, -, -, hY2, -⟩ := id hs2
    unfold alP at hq
    cases hb : holdsP D T i with
    | true =>
      simp only [hb, Bool.true_and] at hq
      refine x_if_eq 101 dX5_alibi_41 (by decide) (fun hc => absurd hc (by decide)) (fun _ => ?_)
      refine x_iconst (v := 0) dX5_alibi_44 (by decide) ?_
      refine x_istore dX5_alibi_45 (by decide) ?_
      refine x_iconst (v := 0) dX5_alibi_47 (by decide) ?_
      refine x_istore dX5_alibi_48 (by decide) ?_
      refine x_wk (cM_cr_loop (d + 4) h' hM2 hY2 (by omega) hy2 p hp _ _ _ _ (crB D.1 (dvH D.1 D.2 i) p) ?_ D.1 0 false (by omega) rfl) ⟨rfl, rfl, rfl, rfl, rfl, rfl, rfl, trivial⟩
      cases hc : crB D.1 (dvH D.1 D.2 i) p with
      | true =>
        simp only [hc, if_true] at hq
        refine x_iload_n (i := 2) dX5_alibi_88 rfl rfl ?_
        refine x_iload dX5_alibi_89 rfl ?_
        refine x_if_eq 98 dX5_alibi_91 (by decide) (fun hc => absurd hc (by decide)) (fun _ => ?_)
        refine x_iconst (v := 1) dX5_alibi_94 (by decide) ?_
        refine x_goto 99 dX5_alibi_95 (by decide) ?_
        refine x_iadd dX5_alibi_99 ?_
        refine x_topi (nI_1 a) ?_
        refine x_istore_n (i := 2) dX5_alibi_100 rfl (by decide) ?_
        first | refine x_incN dX5_alibi_101 rfl (by decide) ?_ | refine x_iinc dX5_alibi_101 rfl rfl (by decide) ?_
        refine x_goto 29 dX5_alibi_104 (by decide) ?_
        exact x_wk (ih (i + 1) (a + 1) h' (by omega) hs3 (fr29_tr hfr hf2) (fun h9 a1 a2 => by rw [Nat.add_assoc]; exact hq h9 a1 a2)) ⟨rfl, rfl, rfl, rfl, rfl, trivial⟩
      | false =>
        simp only [hc, Bool.false_eq_true, if_false, Nat.zero_add] at hq
        refine x_iload_n (i := 2) dX5_alibi_88 rfl rfl ?_
        refine x_iload dX5_alibi_89 rfl ?_
        refine x_if_eq 98 dX5_alibi_91 (by decide) (fun _ => ?_) (fun hc => absurd (rfl) hc)
        refine x_iconst (v := 0) dX5_alibi_98 (by decide) ?_
        refine x_iadd dX5_alibi_99 ?_
        refine x_topi (y := nI a) (by show nI a + nI 0 = nI a; rw [nI_add]; rfl) ?_
        refine x_istore_n (i := 2) dX5_alibi_100 rfl (by decide) ?_
        first | refine x_incN dX5_alibi_101 rfl (by decide) ?_ | refine x_iinc dX5_alibi_101 rfl rfl (by decide) ?_
        refine x_goto 29 dX5_alibi_104 (by decide) ?_
        exact x_wk (ih (i + 1) a h' (by omega) hs3 (fr29_tr hfr hf2) hq) ⟨rfl, rfl, rfl, rfl, rfl, trivial⟩
    | false =>
      simp only [hb, Bool.false_and, Bool.false_eq_true, if_false, Nat.zero_add] at hq
      refine x_if_eq 101 dX5_alibi_41 (by decide) (fun _ => ?_) (fun hc => absurd (rfl) hc)
      first | refine x_incN dX5_alibi_101 rfl (by decide) ?_ | refine x_iinc dX5_alibi_101 rfl rfl (by decide) ?_
      refine x_goto 29 dX5_alibi_104 (by decide) ?_
      exact x_wk (ih (i + 1) a h' (by omega) hs3 (fr29_tr hfr hf2) hq) ⟨rfl, rfl, rfl, rfl, rfl, trivial⟩
def aAlibiM (D : Dg) (T : Sg) (p : Int32) : Int32 := if 0 ≤ p ∧ p < 8 then (match ff D.1 D.2 with
  | some _ => -5
  | none => nI (cntF (alP D T p.toInt.toNat) (2 ^ (3 * akC D)) 0)) else -1
set_option maxRecDepth 100000 in
set_option maxHeartbeats 4000000 in
theorem pM_alibi (d : Nat) (h : x_H) {D : Dg} {T : Sg} {K kp : Nat → Nat} (hs : MS h D T K kp) (p : Int32) : x_Ct (d + 5) mX5_alibi [.ref 30, .int p] h (ME h (aAlibiM D T p) D T K kp) := by
  obtain ⟨ok, od, hK, my, pl, lw, ev, bp, bi, nw, ka, iw, nf, wf, g, R, Z, pf, hM, ⟨t1, t2, t3⟩, hG, ⟨hN, hW⟩, hY, ⟨hR, hZ⟩, hP, hkp, hik, hnf, hwf, hz1⟩ := id hs
  have hn := od.1
  have hf0 := fI_lt0 (o := ff D.1 D.2) (fun p hp => by have := ffA_lt D.2 _ _ _ _ hp; omega)
  unfold aAlibiM
  refine x_enter pnX5_alibi (Nat.le_of_ble_eq_true rfl) ?_
  refine x_iload_n (i := 1) dX5_alibi_0 rfl rfl ?_
  refine x_invS clX5_133 dX5_alibi_1 (cM_isPerson (d + 3) h p) (by omega) rfl rfl (Nat.le_of_ble_eq_true rfl) ?_
  rintro r h' ⟨rfl, rfl⟩
  by_cases hp : 0 ≤ p ∧ p < 8
  · rw [if_pos hp, if_pos hp]
    obtain ⟨q, hq8, rfl, hqn⟩ := isP_of hp
    rw [hqn]
    refine x_if_ne 9 dX5_alibi_4 (by decide) (fun _ => ?_) (fun hc => absurd hc (by decide))
    refine x_aload_n (i := 0) dX5_alibi_9 rfl rfl ?_
    refine x_invV clX5_86 dX5_alibi_10 (cM_fault (d + 2) _ hM hG od) (by omega) rfl (by first | decide | assumption) (by first | assumption | exact x_up_s | (refine (x_up_n (by first | decide | assumption)).trans ?_; first | assumption | exact x_up_s | (refine (x_up_n (by first | decide | assumption)).trans ?_; first | assumption | exact x_up_s | (refine (x_up_n (by first | decide | assumption)).trans ?_; first | assumption | exact x_up_s | (refine (x_up_n (by first | decide | assumption)).trans ?_; first | assumption | exact x_up_s | (refine (x_up_n (by first | decide | assumption)).trans ?_; first | assumption | exact x_up_s | (refine (x_up_n (by first | decide | assumption)).trans ?_; first | assumption | exact x_up_s | (refine (x_up_n (by first | decide | assumption)).trans ?_; first | assumption | exact x_up_s | (refine (x_up_n (by first | decide | assumption)).trans ?_; first | assumption | exact x_up_s | (refine (x_up_n (by first | decide | assumption)).trans ?_; first | assumption | exact x_up_s | (refine (x_up_n (by first | decide | assumption)).trans ?_; first | assumption | exact x_up_s | (refine (x_up_n (by first | decide | assumption)).trans ?_; first | assumption | exact x_up_s | (refine (x_up_n (by first | decide | assumption)).trans ?_; first | assumption | exact x_up_s | (refine (x_up_n (by first | decide | assumption)).trans ?_; first | assumption | exact x_up_s)))))))))))))) rfl (Nat.le_of_ble_eq_true rfl) ?_
    rintro r h' ⟨rfl, rfl⟩
    cases hff : ff D.1 D.2 with
    | some z =>
      rw [hff] at hf0
      refine x_if_lt 19 dX5_alibi_13 (by decide) (fun hc => absurd hc (fun q => absurd (hf0.mp q) (by simp))) (fun _ => ?_)
      refine x_bipush (v := (-5)) dX5_alibi_16 (by decide) ?_
      refine x_iret dX5_alibi_18 rfl ⟨rfl, hs, fr29_rf⟩
    | none =>
      rw [hff] at hf0
      have h4 := akC_4 hff
      have hpw : 2 ^ (3 * akC D) ≤ 2 ^ 12 := Nat.pow_le_pow_right (by decide) (by omega)
      dsimp only
      refine x_if_lt 19 dX5_alibi_13 (by decide) (fun _ => ?_) (fun hc => absurd (hf0.mpr rfl) hc)
      refine x_iconst (v := 0) dX5_alibi_19 (by decide) ?_
      refine x_istore_n (i := 2) dX5_alibi_20 rfl (by decide) ?_
      refine x_aload_n (i := 0) dX5_alibi_21 rfl rfl ?_
      refine x_invV clX5_196 dX5_alibi_22 (cM_ways (d + 3) h' hs hff) (by omega) rfl (by first | decide | assumption) (by first | assumption | exact x_up_s | (refine (x_up_n (by first | decide | assumption)).trans ?_; first | assumption | exact x_up_s | (refine (x_up_n (by first | decide | assumption)).trans ?_; first | assumption | exact x_up_s | (refine (x_up_n (by first | decide | assumption)).trans ?_; first | assumption | exact x_up_s | (refine (x_up_n (by first | decide | assumption)).trans ?_; first | assumption | exact x_up_s | (refine (x_up_n (by first | decide | assumption)).trans ?_; first | assumption | exact x_up_s | (refine (x_up_n (by first | decide | assumption)).trans ?_; first | assumption | exact x_up_s | (refine (x_up_n (by first | decide | assumption)).trans ?_; first | assumption | exact x_up_s | (refine (x_up_n (by first | decide | assumption)).trans ?_; first | assumption | exact x_up_s | (refine (x_up_n (by first | decide | assumption)).trans ?_; first | assumption | exact x_up_s | (refine (x_up_n (by first | decide | assumption)).trans ?_; first | assumption | exact x_up_s | (refine (x_up_n (by first | decide | assumption)).trans ?_; first | assumption | exact x_up_s | (refine (x_up_n (by first | decide | assumption)).trans ?_; first | assumption | exact x_up_s | (refine (x_up_n (by first | decide | assumption)).trans ?_; first | assumption | exact x_up_s)))))))))))))) rfl (Nat.le_of_ble_eq_true rfl) ?_
      rintro r h'' ⟨rfl, rfl⟩
      generalize 2 ^ (3 * akC D) = all at hpw ⊢
      refine x_istore_n (i := 3) dX5_alibi_25 rfl (by decide) ?_
      refine x_iconst (v := 0) dX5_alibi_26 (by decide) ?_
      refine x_istore dX5_alibi_27 (by decide) ?_
      refine x_wk (cM_alibi_loop (d + 1) h'' hff q hq8 all (by omega) _ all 0 0 h'' (by omega) hs fr29_rf (fun h9 a1 a2 => ?_)) ⟨rfl, rfl, rfl, rfl, rfl, trivial⟩
      rw [Nat.zero_add]
      exact ⟨rfl, a1, a2⟩
  · rw [if_neg hp, if_neg hp]
    refine x_if_ne 9 dX5_alibi_4 (by decide) (fun hc => absurd (rfl) hc) (fun _ => ?_)
    refine x_iconst (v := (-1)) dX5_alibi_7 (by decide) ?_
    refine x_iret dX5_alibi_8 rfl ⟨rfl, hs, fr29_rf⟩
