/-! the search, step by step -/
def okF (n : Nat) (cs : Nat → Nat) : Prop := ∀ i, i < n → cs i = 63 ∨ (65 ≤ cs i ∧ cs i < 73) ∨ (97 ≤ cs i ∧ cs i < 105)
def good (n : Nat) (cs : Nat → Nat) (S : Sg) (N j : Nat) : Bool := fitB S (ppl (mR S.2.1 S.1 (dvH n cs N) j)) j
/-- what the search stands on -/
def CX (n : Nat) (cs : Nat → Nat) (S : Sg) (l : Nat) (W U : Nat → Nat) (C : Nat → Nat × Nat) (T : Nat → Option Nat) : Prop :=
  1 ≤ S.1 ∧ n ≤ 40 ∧ okF n cs ∧ (∀ i, i < 40 → ktOk n cs S.2.1 S.1 W U C T i) ∧ (∀ j, j ≤ n → ∀ b, hbh W U j b = fitB S (ppl b) j) ∧ (∀ j, l < j → j ≤ 40 → sgt W U j = false)
/-- the board that is followed, beside the day's own -/
def BdR (S : Sg) (c : Nat × Nat) (H : List Nat) (b : Bd) : Prop := ∃ V, ndp S.2.1 V ∧ nm b = V.take (cap S.2.1 S.1) ∧ Rel S.2.1 S.1 c H V
def stT (w L : Nat) (o : Option Nat) (b : Bd) : Bd := match o with
  | some p => bw w L (p, 0) b
  | none => b
theorem wkA_s {W U : Nat → Nat} {T : Nat → Option Nat} {w L f i : Nat} {b : Bd} : wkA W U T w L (f + 1) i b = if hbh W U (i + 1) (stT w L (T i) b) then wkA W U T w L f (i + 1) (stT w L (T i) b) else (false, stT w L (T i) b) := by
  rw [wkA]
  cases T i <;> rfl
theorem ev_told {n : Nat} {cs : Nat → Nat} {S : Sg} {l : Nat} {W U : Nat → Nat} {C : Nat → Nat × Nat} {T : Nat → Option Nat} (cx : CX n cs S l W U C T) {N i : Nat} (hi : i < n) (hq : cs i ≠ 63) {b : Bd} (hb : BdR S (C i) (his S.2.1 (dvH n cs N) i) b) :
    BdR S (preC W U C i) (his S.2.1 (dvH n cs N) (i + 1)) (stT S.2.1 S.1 (T i) b) := by
  obtain ⟨hL, hn, hF, hk, -, -⟩ := cx
  obtain ⟨V, h1, h2, h3⟩ := hb
  have hki := hk i (by omega)
  unfold ktOk at hki
  rw [cd_at (by omega), if_pos hi] at hki
  have hdv : dvH n cs N i = dvN (cs i) := by rw [dvH_at hi, if_neg hq]
  unfold his
  rw [hdv]
  rcases hF i hi with q | q | q
  · exact absurd q hq
  · obtain ⟨e1, e2, -⟩ := dv_cr q
    rw [e1] at hki
    obtain ⟨k1, k2⟩ := hki
    rw [k1] at h3
    rw [if_pos (by omega), k2]
    by_cases hkeep : (if S.2.1 = 1 then !((preC W U C i).2.testBit (dvN (cs i))) else decide ((preC W U C i).1 < S.1)) = true
    · rw [if_pos hkeep, stT]
      rw [bw_bwM (by show dvN (cs i) ≠ 8; omega)]
      refine ⟨pushV S.2.1 (dvN (cs i)) V, ndp_push h1, nm_push hL h1 h2, Rel_keep (fun hw => ?_) h3⟩
      rw [if_pos hw, Bool.not_eq_true'] at hkeep
      exact hkeep
    · rw [if_neg hkeep]
      refine ⟨V, h1, h2, Rel_drop hL (fun hw => ?_) (fun hw => ?_) h3⟩
      · rw [if_pos hw, Bool.not_eq_true', Bool.not_eq_false] at hkeep
        exact hkeep
      · rw [if_neg hw, decide_eq_true_eq] at hkeep
        exact Nat.le_of_not_lt hkeep
  · obtain ⟨e1, -, e2, -⟩ := dv_lk q
    rw [e1] at hki
    obtain ⟨k1, k2⟩ := hki
    rw [k1] at h3
    rw [if_neg (by omega), k2]
    exact ⟨V, h1, h2, h3⟩
theorem ev_asked {n : Nat} {cs : Nat → Nat} {S : Sg} {l : Nat} {W U : Nat → Nat} {C : Nat → Nat × Nat} {T : Nat → Option Nat} (cx : CX n cs S l W U C T) {N i p : Nat} (hi : i < n) (hq : cs i = 63) (hp : dvH n cs N i = p) (hp8 : p < 8) {b : Bd} (hb : BdR S (C i) (his S.2.1 (dvH n cs N) i) b) :
    BdR S (preC W U C i) (his S.2.1 (dvH n cs N) (i + 1)) (bw S.2.1 S.1 (p, 0) b) := by
  obtain ⟨hL, hn, hF, hk, -, -⟩ := cx
  obtain ⟨V, h1, h2, h3⟩ := hb
  have hki := hk i (by omega)
  unfold ktOk at hki
  rw [cd_at (by omega), if_pos hi, hq] at hki
  have h63 : crN 63 = none := rfl
  rw [h63] at hki
  rw [hki.1] at h3
  unfold his
  rw [hp, if_pos (by omega), bw_bwM (by show p ≠ 8; omega)]
  exact ⟨pushV S.2.1 p V, ndp_push h1, nm_push hL h1 h2, Rel_both h3⟩
theorem ev_check {n : Nat} {cs : Nat → Nat} {S : Sg} {l : Nat} {W U : Nat → Nat} {C : Nat → Nat × Nat} {T : Nat → Option Nat} (cx : CX n cs S l W U C T) {N i : Nat} (hi : i + 1 ≤ n) {b : Bd} (hb : BdR S (preC W U C i) (his S.2.1 (dvH n cs N) (i + 1)) b) :
    hbh W U (i + 1) b = good n cs S N (i + 1) ∧ BdR S (C (i + 1)) (his S.2.1 (dvH n cs N) (i + 1)) b := by
  obtain ⟨hL, hn, hF, hk, hfit, -⟩ := cx
  obtain ⟨V, h1, h2, h3⟩ := hb
  unfold preC at h3
  unfold good
  cases hs : sgt W U (i + 1) with
  | true =>
    rw [hs, if_pos rfl] at h3
    refine ⟨?_, V, h1, h2, Rel_wk h3⟩
    rw [hfit (i + 1) hi, ppl_nm (b' := mR S.2.1 S.1 (dvH n cs N) (i + 1))]
    rw [h2, nm_mR hL, Rel_00 h3]
  | false =>
    rw [hs, if_neg (by decide)] at h3
    refine ⟨?_, V, h1, h2, h3⟩
    rw [← hfit (i + 1) hi, sgt_no hs, sgt_no hs]
theorem good_late {n : Nat} {cs : Nat → Nat} {S : Sg} {l : Nat} {W U : Nat → Nat} {C : Nat → Nat × Nat} {T : Nat → Option Nat} (cx : CX n cs S l W U C T) {N j : Nat} (hj : j ≤ n) (hl : l < j) : good n cs S N j = true ∧ ∀ b, hbh W U j b = true := by
  obtain ⟨hL, hn, hF, hk, hfit, hlast⟩ := cx
  have hs := hlast j hl (by omega)
  unfold good
  exact ⟨by rw [← hfit j hj, sgt_no hs], fun b => sgt_no hs b⟩
theorem walk_ok {n : Nat} {cs : Nat → Nat} {S : Sg} {l : Nat} {W U : Nat → Nat} {C : Nat → Nat × Nat} {T : Nat → Option Nat} (cx : CX n cs S l W U C T) {N : Nat} : ∀ (f i : Nat) (b : Bd), i + f ≤ n → (∀ j, i ≤ j → j < i + f → cs j ≠ 63) → BdR S (C i) (his S.2.1 (dvH n cs N) i) b →
    ((wkA W U T S.2.1 S.1 f i b).1 = true ∧ (∀ j, i < j → j ≤ i + f → good n cs S N j = true) ∧ BdR S (C (i + f)) (his S.2.1 (dvH n cs N) (i + f)) (wkA W U T S.2.1 S.1 f i b).2) ∨ ((wkA W U T S.2.1 S.1 f i b).1 = false ∧ ∃ j, i < j ∧ j ≤ i + f ∧ good n cs S N j = false)
  | 0, i, b, _, _, hb => Or.inl ⟨rfl, fun j h1 h2 => by omega, hb⟩
  | f + 1, i, b, hi, hq, hb => by
    have h1 := ev_told cx (by omega) (hq i (Nat.le_refl _) (by omega)) hb
    obtain ⟨h2, h3⟩ := ev_check cx (by omega) h1
    rw [wkA_s, h2]
    cases hg : good n cs S N (i + 1) with
    | false => exact Or.inr ⟨rfl, i + 1, by omega, by omega, hg⟩
    | true =>
      rw [if_pos rfl]
      rcases walk_ok cx f (i + 1) _ (by omega) (fun j a b => hq j (by omega) (by omega)) h3 with ⟨w1, w2, w3⟩ | ⟨w1, j, w2, w3, w4⟩
      · refine Or.inl ⟨w1, fun j a b => ?_, ?_⟩
        · by_cases hj : j = i + 1
          · rw [hj]; exact hg
          · exact w2 j (by omega) (by omega)
        · rw [show i + (f + 1) = i + 1 + f by omega]; exact w3
      · exact Or.inr ⟨w1, j, by omega, by omega, w4⟩
theorem seg_ok {n : Nat} {cs : Nat → Nat} {S : Sg} {l : Nat} {W U : Nat → Nat} {C : Nat → Nat × Nat} {T : Nat → Option Nat} (cx : CX n cs S l W U C T) {N ev stop : Nat} {b : Bd} (h1 : ev ≤ stop) (h2 : stop ≤ n) (hq : ∀ j, ev ≤ j → j < stop → cs j ≠ 63) (hb : ev ≤ l → BdR S (C ev) (his S.2.1 (dvH n cs N) ev) b) :
    ((wkA W U T S.2.1 S.1 (min stop l - ev) ev b).1 = true ∧ (∀ j, ev < j → j ≤ stop → good n cs S N j = true) ∧ (stop ≤ l → BdR S (C stop) (his S.2.1 (dvH n cs N) stop) (wkA W U T S.2.1 S.1 (min stop l - ev) ev b).2)) ∨ ((wkA W U T S.2.1 S.1 (min stop l - ev) ev b).1 = false ∧ ∃ j, ev < j ∧ j ≤ stop ∧ good n cs S N j = false) := by
  by_cases hl : ev ≤ l
  · rcases walk_ok cx (min stop l - ev) ev b (by omega) (fun j a b => hq j a (by omega)) (hb hl) with ⟨w1, w2, w3⟩ | ⟨w1, j, w2, w3, w4⟩
    · refine Or.inl ⟨w1, fun j a c => ?_, fun hs => ?_⟩
      · by_cases hj : j ≤ l
        · exact w2 j a (by omega)
        · exact (good_late cx (by omega) (by omega)).1
      · rw [show ev + (min stop l - ev) = stop by omega] at w3
        exact w3
    · exact Or.inr ⟨w1, j, w2, by omega, w4⟩
  · rw [show min stop l - ev = 0 by omega]
    exact Or.inl ⟨rfl, fun j a c => (good_late cx (by omega) (by omega)).1, fun hs => by omega⟩
theorem good_blk {n : Nat} {cs : Nat → Nat} {S : Sg} {r N N0 j : Nat} (h : N / 8 ^ r = N0 / 8 ^ r) (hj : j ≤ n) (hc : ct cs j + r ≤ ct cs n) : good n cs S N j = good n cs S N0 j ∧ his S.2.1 (dvH n cs N) j = his S.2.1 (dvH n cs N0) j := by
  have e : ∀ i, i < j → dvH n cs N i = dvH n cs N0 i := by
    intro i hi
    rw [dvH_at (by omega), dvH_at (by omega)]
    by_cases hq : cs i = 63
    · rw [if_pos hq, if_pos hq]
      have := ct_lt hi hq
      exact dig_blk h (by omega)
    · rw [if_neg hq, if_neg hq]
  refine ⟨?_, his_c j e⟩
  unfold good
  rw [mR_dv j e]
theorem hoN_iff {S : Sg} {dv : Nat → Nat} : ∀ i, hoN S dv i = true ↔ ∀ j, j ≤ i → fitB S (ppl (mR S.2.1 S.1 dv j)) j = true
  | 0 => ⟨fun h j hj => by
      have : j = 0 := by omega
      subst this; exact h, fun h => h 0 (Nat.le_refl _)⟩
  | i + 1 => by
    unfold hoN
    rw [Bool.and_eq_true, hoN_iff i]
    constructor
    · rintro ⟨h1, h2⟩ j hj
      by_cases hji : j = i + 1
      · rw [hji]; exact h2
      · exact h1 j (by omega)
    · intro h
      exact ⟨fun j hj => h j (by omega), h (i + 1) (Nat.le_refl _)⟩
theorem holds_good {D : Dg} {S : Sg} {N : Nat} : holdsP D S N = true ↔ ∀ j, j ≤ D.1 → good D.1 D.2 S N j = true := hoN_iff D.1
theorem holds_no {D : Dg} {S : Sg} {N j : Nat} (hj : j ≤ D.1) (h : good D.1 D.2 S N j = false) : holdsP D S N = false := by
  cases hh : holdsP D S N with
  | false => rfl
  | true => rw [holds_good.mp hh j hj] at h; cases h
/-! all ways, a number each -/
abbrev Ws : Type := Nat × (Nat → Nat) × (Nat → Nat) × (Nat → Nat)
def foldN (g : Nat → Ws → Ws) : Nat → Nat → Ws → Ws
  | 0, _, s => s
  | f + 1, i, s => foldN g f (i + 1) (g i s)
theorem foldN_add (g : Nat → Ws → Ws) : ∀ (a f i : Nat) (s : Ws), foldN g (a + f) i s = foldN g f (i + a) (foldN g a i s)
  | 0, f, i, s => by rw [Nat.zero_add]; rfl
  | a + 1, f, i, s => by
    rw [show a + 1 + f = (a + f) + 1 by omega, foldN, foldN_add g a f (i + 1), foldN, show i + 1 + a = i + (a + 1) by omega]
def crV (n : Nat) (dv Cr : Nat → Nat) : Nat → Nat := fun j => if j < 8 then Cr j + (crB n dv j).toNat else Cr j
def wayN (D : Dg) (ak N : Nat) (s : Ws) : Ws := (s.1 + 1, fiU s.1 ak (dig ak N) s.2.1, caU ak (dig ak N) s.2.2.1, crV D.1 (dvH D.1 D.2 N) s.2.2.2)
def leaf (D : Dg) (S : Sg) (ak N : Nat) (s : Ws) : Ws := if holdsP D S N then wayN D ak N s else s
theorem fold_no {D : Dg} {S : Sg} {ak : Nat} : ∀ (f i : Nat) (s : Ws), (∀ N, i ≤ N → N < i + f → holdsP D S N = false) → foldN (leaf D S ak) f i s = s
  | 0, _, _, _ => rfl
  | f + 1, i, s, h => by
    have e : leaf D S ak i s = s := by unfold leaf; rw [h i (Nat.le_refl _) (by omega), if_neg (by decide)]
    rw [foldN, e]
    exact fold_no f (i + 1) s (fun N a b => h N (by omega) (by omega))
theorem blk_of {B N N0 : Nat} (h0 : N0 % B = 0) (h1 : N0 ≤ N) (h2 : N < N0 + B) : N / B = N0 / B := by
  have hB : 0 < B := by omega
  obtain ⟨y, rfl⟩ := Nat.dvd_of_mod_eq_zero h0
  obtain ⟨t, rfl⟩ : ∃ t, N = B * y + t := ⟨N - B * y, by omega⟩
  rw [Nat.mul_add_div hB, Nat.mul_div_cancel_left _ hB, Nat.div_eq_of_lt (by omega), Nat.add_zero]
