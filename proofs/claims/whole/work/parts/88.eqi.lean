/-! what is not told: the filled day -/
def ct (cs : Nat → Nat) (i : Nat) : Nat := cntF (askP cs) i 0
theorem ct_s (cs : Nat → Nat) (i : Nat) : ct cs (i + 1) = ct cs i + (if cs i = 63 then 1 else 0) := by
  unfold ct
  rw [cntF_snoc, Nat.zero_add]
  unfold askP
  by_cases h : cs i = 63
  · rw [if_pos h, if_pos (by rw [h]; rfl)]
  · rw [if_neg h, if_neg (by rw [beq_iff_eq]; exact h)]
theorem ct_le {cs : Nat → Nat} {a b : Nat} (h : a ≤ b) : ct cs a ≤ ct cs b := cntF_mono h
theorem ct_lt {cs : Nat → Nat} {a b : Nat} (h : a < b) (hc : cs a = 63) : ct cs a < ct cs b := by
  have := ct_s cs a
  rw [if_pos hc] at this
  have := ct_le (cs := cs) (show a + 1 ≤ b by omega)
  omega
theorem ct_no {cs : Nat → Nat} {a b : Nat} (h : ct cs a = ct cs b) : ∀ j, a ≤ j → j < b → cs j ≠ 63 := by
  intro j h1 h2 hc
  have := ct_lt h2 hc
  have := ct_le (cs := cs) h1
  omega
/-- the k-th of ak digits to the base 8 -/
def dig (ak N k : Nat) : Nat := N / 8 ^ (ak - 1 - k) % 8
theorem dig_lt (ak N k : Nat) : dig ak N k < 8 := Nat.mod_lt _ (by decide)
theorem hdN_at {cs : Nat → Nat} : ∀ (k left : Nat) (dv : Nat → Nat) (i : Nat), hdN cs k left dv i = if i < k ∧ cs i = 63 then left / 8 ^ (ct cs k - 1 - ct cs i) % 8 else dv i
  | 0, left, dv, i => by rw [if_neg (by omega)]; rfl
  | k + 1, left, dv, i => by
    unfold hdN
    have hs := ct_s cs k
    by_cases hk : cs k = 63
    · rw [if_pos hk, hdN_at k]
      rw [if_pos hk] at hs
      by_cases hi : i < k ∧ cs i = 63
      · have := ct_lt hi.1 hi.2
        rw [if_pos hi, if_pos ⟨by omega, hi.2⟩, hs, Nat.div_div_eq_div_mul, show ct cs k + 1 - 1 - ct cs i = (ct cs k - 1 - ct cs i) + 1 by omega, Nat.pow_succ, Nat.mul_comm 8]
      · rw [if_neg hi]
        unfold csU
        by_cases hik : i = k
        · subst hik
          rw [if_pos rfl, if_pos ⟨Nat.lt_succ_self _, hk⟩, hs, show ct cs i + 1 - 1 - ct cs i = 0 by omega, Nat.pow_zero, Nat.div_one]
        · rw [if_neg hik, if_neg (fun z => hi ⟨by omega, z.2⟩)]
    · rw [if_neg hk, hdN_at k]
      rw [if_neg hk, Nat.add_zero (ct cs k)] at hs
      rw [hs]
      by_cases hi : i < k ∧ cs i = 63
      · rw [if_pos hi, if_pos ⟨by omega, hi.2⟩]
      · rw [if_neg hi, if_neg (fun z => hi ⟨by
          have : i ≠ k := fun q => hk (q ▸ z.2)
          omega, z.2⟩)]
theorem dvH_at {cs : Nat → Nat} {n N i : Nat} (hi : i < n) : dvH n cs N i = if cs i = 63 then dig (ct cs n) N (ct cs i) else dvN (cs i) := by
  unfold dvH
  rw [hdN_at]
  by_cases h : cs i = 63
  · rw [if_pos ⟨hi, h⟩, if_pos h]; rfl
  · rw [if_neg (fun z => h z.2), if_neg h]; rfl
/-- numbers of one block have the same leading digits -/
theorem dig_blk {ak r N N0 k : Nat} (h : N / 8 ^ r = N0 / 8 ^ r) (hk : k + r < ak) : dig ak N k = dig ak N0 k := by
  unfold dig
  obtain ⟨m, hm⟩ : ∃ m, ak - 1 - k = r + m := ⟨ak - 1 - k - r, by omega⟩
  rw [hm, Nat.pow_add, ← Nat.div_div_eq_div_mul, ← Nat.div_div_eq_div_mul, h]
theorem dig_kid {ak r N0 p k : Nat} (h0 : N0 % 8 ^ (r + 1) = 0) (hp : p < 8) (hk : k + (r + 1) = ak) : dig ak (N0 + p * 8 ^ r) k = p := by
  unfold dig
  rw [show ak - 1 - k = r by omega, Nat.add_mul_div_right _ _ (Nat.pow_pos (by decide))]
  obtain ⟨y, hy⟩ := Nat.dvd_of_mod_eq_zero h0
  rw [hy, Nat.pow_succ, Nat.mul_assoc, Nat.mul_div_cancel_left _ (Nat.pow_pos (by decide))]
  omega
theorem blk_kid {r N N0 p : Nat} (h0 : N0 % 8 ^ (r + 1) = 0) (hp : p < 8) (h : N / 8 ^ r = (N0 + p * 8 ^ r) / 8 ^ r) : N / 8 ^ (r + 1) = N0 / 8 ^ (r + 1) := by
  rw [Nat.add_mul_div_right _ _ (Nat.pow_pos (by decide))] at h
  rw [Nat.pow_succ, ← Nat.div_div_eq_div_mul, ← Nat.div_div_eq_div_mul, h]
  obtain ⟨y, hy⟩ := Nat.dvd_of_mod_eq_zero h0
  rw [hy, Nat.pow_succ, Nat.mul_assoc, Nat.mul_div_cancel_left _ (Nat.pow_pos (by decide))]
  omega
theorem kid_0 {r N0 p : Nat} (h0 : N0 % 8 ^ (r + 1) = 0) : (N0 + p * 8 ^ r) % 8 ^ r = 0 := by
  obtain ⟨y, hy⟩ := Nat.dvd_of_mod_eq_zero h0
  rw [hy, Nat.pow_succ, Nat.mul_assoc, Nat.add_mul_mod_self_right, Nat.mul_mod_right]
/-! the names so far, with no end -/
def pushV (w x : Nat) (l : List Nat) : List Nat := x :: (if w = 1 then l.filter (fun y => !(y == x)) else l)
def his (w : Nat) (dv : Nat → Nat) : Nat → List Nat
  | 0 => []
  | i + 1 => if dv i < 16 then pushV w (dv i) (his w dv i) else his w dv i
def ndp (w : Nat) (l : List Nat) : Prop := w = 1 → l.Nodup
theorem ndp_push {w x : Nat} {l : List Nat} (h : ndp w l) : ndp w (pushV w x l) := by
  intro hw
  unfold pushV
  rw [if_pos hw, List.nodup_cons]
  refine ⟨fun hm => ?_, List.Nodup.sublist List.filter_sublist (h hw)⟩
  have := (List.mem_filter.mp hm).2
  simp at this
theorem ndp_his {w : Nat} {dv : Nat → Nat} : ∀ i, ndp w (his w dv i)
  | 0 => fun _ => List.nodup_nil
  | i + 1 => by
    unfold his
    split
    · exact ndp_push (ndp_his i)
    · exact ndp_his i
theorem push_UV {w x : Nat} {l : List Nat} (h : ndp w l) : pushU w x l = pushV w x l := by
  unfold pushU pushV
  by_cases hw : w = 1
  · rw [if_pos hw, if_pos hw, (h hw).erase_eq_filter]
    rfl
  · rw [if_neg hw, if_neg hw]
theorem er_take {x : Nat} : ∀ (l : List Nat) (k : Nat), ((l.take (k + 1)).erase x).take k = (l.erase x).take k
  | [], k => rfl
  | y :: l, k => by
    rw [List.take_succ_cons]
    by_cases hy : y = x
    · subst hy
      rw [List.erase_cons_head, List.erase_cons_head, List.take_take, Nat.min_self]
    · rw [List.erase_cons_tail (by simpa using hy), List.erase_cons_tail (by simpa using hy)]
      cases k with
      | zero => rfl
      | succ k => rw [List.take_succ_cons, List.take_succ_cons, er_take l k]
theorem push_take {w x c : Nat} {l : List Nat} : (pushU w x (l.take c)).take c = (pushU w x l).take c := by
  unfold pushU
  cases c with
  | zero => rfl
  | succ c =>
    rw [List.take_succ_cons, List.take_succ_cons]
    congr 1
    split
    · exact er_take l c
    · rw [List.take_take, Nat.min_eq_left (by omega)]
theorem nm_push {w L x t : Nat} {b : Bd} {U : List Nat} (hL : 1 ≤ L) (hU : ndp w U) (hb : nm b = U.take (cap w L)) : nm (bwM w L (x, t) b) = (pushV w x U).take (cap w L) := by
  have hlen : b.length ≤ cap w L := by rw [← nm_len, hb, List.length_take]; omega
  rw [nm_bwM hL hlen, hb, push_take, push_UV hU]
theorem nm_mR {w L : Nat} {dv : Nat → Nat} (hL : 1 ≤ L) : ∀ i, nm (mR w L dv i) = (his w dv i).take (cap w L)
  | 0 => by unfold his; rw [List.take_nil]; rfl
  | i + 1 => by
    rw [mR_s, mst, his]
    split
    · exact nm_push hL (ndp_his i) (nm_mR hL i)
    · exact nm_mR hL i
theorem his_c {w : Nat} {dv dv' : Nat → Nat} : ∀ i, (∀ j, j < i → dv j = dv' j) → his w dv i = his w dv' i
  | 0, _ => rfl
  | i + 1, h => by unfold his; rw [his_c i (fun j hj => h j (by omega)), h i (by omega)]
/-! what may differ when crossings are left out -/
def Rel (w L : Nat) (c : Nat × Nat) (U V : List Nat) : Prop :=
  (w = 1 → U.filter (fun x => !c.2.testBit x) = V.filter (fun x => !c.2.testBit x)) ∧ (w ≠ 1 → U.take (cap w L - c.1) = V.take (cap w L - c.1))
theorem fil_true (l : List Nat) : l.filter (fun _ => true) = l := List.filter_eq_self.mpr (fun _ _ => rfl)
theorem Rel_rf {w L : Nat} {c : Nat × Nat} {U : List Nat} : Rel w L c U U := ⟨fun _ => rfl, fun _ => rfl⟩
theorem Rel_00 {w L : Nat} {U V : List Nat} (h : Rel w L (0, 0) U V) : U.take (cap w L) = V.take (cap w L) := by
  by_cases hw : w = 1
  · have := h.1 hw
    simp only [Nat.zero_testBit, Bool.not_false] at this
    rw [fil_true, fil_true] at this
    rw [this]
  · exact h.2 hw
theorem Rel_wk {w L : Nat} {c : Nat × Nat} {U V : List Nat} (h : Rel w L (0, 0) U V) : Rel w L c U V := by
  refine ⟨fun hw => ?_, fun hw => ?_⟩
  · have := h.1 hw
    simp only [Nat.zero_testBit, Bool.not_false] at this
    rw [fil_true, fil_true] at this
    rw [this]
  · have := congrArg (fun l => l.take (cap w L - c.1)) (h.2 hw)
    simp only [List.take_take, Nat.sub_zero] at this
    rwa [Nat.min_eq_left (by omega)] at this
/-- somebody crosses in both -/
theorem Rel_both {w L x : Nat} {c : Nat × Nat} {U V : List Nat} (h : Rel w L c U V) : Rel w L c (pushV w x U) (pushV w x V) := by
  refine ⟨fun hw => ?_, fun hw => ?_⟩
  · have h1 := h.1 hw
    unfold pushV
    rw [if_pos hw, if_pos hw, List.filter_cons, List.filter_cons]
    have e : (U.filter (fun y => !(y == x))).filter (fun x => !c.2.testBit x) = (V.filter (fun y => !(y == x))).filter (fun x => !c.2.testBit x) := by
      have := congrArg (fun l => l.filter (fun y => !(y == x))) h1
      simp only [List.filter_filter] at this ⊢
      simpa only [Bool.and_comm] using this
    rw [e]
  · have h2 := h.2 hw
    unfold pushV
    rw [if_neg hw, if_neg hw]
    cases hk : cap w L - c.1 with
    | zero => rfl
    | succ k =>
      rw [hk] at h2
      have := congrArg (fun l => l.take k) h2
      simp only [List.take_take] at this
      rw [Nat.min_eq_left (by omega)] at this
      rw [List.take_succ_cons, List.take_succ_cons, this]
/-- a told crossing that is kept -/
theorem Rel_keep {w L p lt lp : Nat} {U V : List Nat} (hk : w = 1 → lp.testBit p = false) (h : Rel w L (lt + 1, lp ||| 2 ^ p) U V) : Rel w L (lt, lp) (pushV w p U) (pushV w p V) := by
  refine ⟨fun hw => ?_, fun hw => ?_⟩
  · have h1 := h.1 hw
    unfold pushV
    rw [if_pos hw, if_pos hw, List.filter_cons, List.filter_cons]
    dsimp only
    rw [hk hw]
    simp only [Bool.not_false, if_true]
    congr 1
    simp only [List.filter_filter]
    have e : ∀ l : List Nat, l.filter (fun x => !(lp ||| 2 ^ p).testBit x) = l.filter (fun a => !lp.testBit a && !(a == p)) := by
      intro l
      congr 1
      funext x
      rw [bit_or_pow, Bool.not_or]
      congr 2
      rw [Bool.eq_iff_iff, decide_eq_true_eq, beq_iff_eq]
      exact ⟨fun q => q.symm, fun q => q.symm⟩
    rw [← e, ← e]
    exact h1
  · have h2 := h.2 hw
    unfold pushV
    rw [if_neg hw, if_neg hw]
    dsimp only at h2 ⊢
    cases hc : cap w L - lt with
    | zero => rfl
    | succ k =>
      rw [show cap w L - (lt + 1) = k by omega] at h2
      rw [List.take_succ_cons, List.take_succ_cons, h2]
/-- one that is left out -/
theorem Rel_drop {w L p lt lp : Nat} {U V : List Nat} (hL : 1 ≤ L) (h1 : w = 1 → lp.testBit p = true) (h2 : w ≠ 1 → L ≤ lt) (h : Rel w L (lt + 1, lp ||| 2 ^ p) U V) : Rel w L (lt, lp) (pushV w p U) V := by
  refine ⟨fun hw => ?_, fun hw => ?_⟩
  · have h3 := h.1 hw
    have hp := h1 hw
    have e0 : lp ||| 2 ^ p = lp := by
      apply Nat.eq_of_testBit_eq
      intro i
      rw [bit_or_pow]
      by_cases hi : p = i
      · rw [← hi, hp]; rfl
      · rw [decide_eq_false hi, Bool.or_false]
    dsimp only at h3 ⊢
    rw [e0] at h3
    unfold pushV
    rw [if_pos hw, List.filter_cons, hp]
    simp only [Bool.not_true, List.filter_filter]
    rw [if_neg (by decide), ← h3]
    congr 1
    funext x
    by_cases hx : x = p
    · rw [hx, hp]; rfl
    · rw [beq_eq_false_iff_ne.mpr hx]
      simp
  · have := cap_le (w := w) hL
    have := h2 hw
    dsimp only
    rw [show cap w L - lt = 0 by omega]
    rfl
