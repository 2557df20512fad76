/-! boards as names alone -/
def pushU (w x : Nat) (l : List Nat) : List Nat := x :: (if w = 1 then l.erase x else l)
theorem nm_bdrop (x : Nat) : ∀ b : Bd, nm (bdrop x b) = (nm b).erase x
  | [] => rfl
  | q :: b => by
    have ih := nm_bdrop x b
    unfold bdrop at ih ⊢
    rw [bfind_cons, nm_cons]
    by_cases hq : q.1 = x
    · rw [if_pos hq, hq, List.erase_cons_head]; rfl
    · rw [if_neg hq, List.erase_cons_tail (by simpa using hq), ← ih]
      cases bfind x b with
      | none => rfl
      | some i => rfl
theorem nm_take (b : Bd) (c : Nat) : nm (b.take c) = (nm b).take c := by unfold nm; rw [List.map_take]
theorem nm_bwM {w L x t : Nat} {b : Bd} (hL : 1 ≤ L) (hb : b.length ≤ cap w L) : nm (bwM w L (x, t) b) = (pushU w x (nm b)).take (cap w L) := by
  rw [bwM_cap hL hb, nm_take, nm_cons]
  unfold pushU
  split
  · rw [nm_bdrop]
  · rfl
theorem nm_len (b : Bd) : (nm b).length = b.length := by unfold nm; rw [List.length_map]
/-- the names ahead of the first p -/
def pp (p : Nat) : List Nat → Option (List Nat)
  | [] => none
  | x :: l => if x = p then some [] else (pp p l).map (x :: ·)
def limL (c : Nat) (o : Option (List Nat)) : Option (List Nat) := match o with
  | some u => if u.length < c then some u else none
  | none => none
theorem pp_take (p : Nat) : ∀ (c : Nat) (l : List Nat), pp p (l.take c) = limL c (pp p l)
  | 0, l => by
    rw [List.take_zero]
    unfold limL
    cases pp p l with
    | none => rfl
    | some u => rfl
  | c + 1, [] => rfl
  | c + 1, x :: l => by
    rw [List.take_succ_cons, pp, pp]
    by_cases h : x = p
    · rw [if_pos h, if_pos h]; rfl
    · rw [if_neg h, if_neg h, pp_take p c l]
      cases pp p l with
      | none => rfl
      | some u =>
        show (if u.length < c then some u else none).map (x :: ·) = if u.length + 1 < c + 1 then some (x :: u) else none
        by_cases hu : u.length < c
        · rw [if_pos hu, if_pos (by omega)]; rfl
        · rw [if_neg hu, if_neg (by omega)]; rfl
theorem pp_erase {p x : Nat} (hx : x ≠ p) : ∀ l : List Nat, pp p (l.erase x) = (pp p l).map (fun u => u.erase x)
  | [] => rfl
  | y :: l => by
    by_cases hy : y = x
    · subst hy
      rw [List.erase_cons_head, pp, if_neg hx]
      cases pp p l with
      | none => rfl
      | some u => show some u = some ((y :: u).erase y); rw [List.erase_cons_head]
    · rw [List.erase_cons_tail (by simpa using hy), pp, pp]
      by_cases hp : y = p
      · rw [if_pos hp, if_pos hp]; rfl
      · rw [if_neg hp, if_neg hp, pp_erase hx l]
        cases pp p l with
        | none => rfl
        | some u => show some (y :: u.erase x) = some ((y :: u).erase x); rw [List.erase_cons_tail (by simpa using hy)]
theorem pp_push {w p x c : Nat} {l l' : List Nat} (h : pp p l = pp p l') : pp p ((pushU w x l).take c) = pp p ((pushU w x l').take c) := by
  rw [pp_take, pp_take]
  congr 1
  unfold pushU
  rw [pp, pp]
  by_cases hx : x = p
  · rw [if_pos hx, if_pos hx]
  · rw [if_neg hx, if_neg hx]
    congr 1
    split
    · rw [pp_erase hx, pp_erase hx, h]
    · exact h
theorem pp_find (p : Nat) : ∀ b : Bd, bfind p b = (pp p (nm b)).map (·.length)
  | [] => rfl
  | q :: b => by
    rw [bfind_cons, nm_cons, pp]
    by_cases h : q.1 = p
    · rw [if_pos h, if_pos h]; rfl
    · rw [if_neg h, if_neg h, pp_find p b]
      cases pp p (nm b) <;> rfl
theorem pp_need {c p : Nat} {b b' : Bd} (h : pp p (nm b) = pp p (nm b')) : need c p b = need c p b' := by
  unfold need
  rw [pp_find, pp_find, h]
theorem pp_none {p : Nat} {b : Bd} : pp p (nm b) = none ↔ bfind p b = none := by
  rw [pp_find]
  cases pp p (nm b) <;> simp
/-! boys -/
theorem boW_nm {w L ev : Nat} : ∀ (c boy : Nat) (b : Bd), (∀ q ∈ b, q.1 < boy) → ∀ q ∈ boW w L ev c boy b, q.1 < boy + c
  | 0, boy, b, h => h
  | c + 1, boy, b, h => by
    intro q hq
    have := boW_nm (w := w) (L := L) (ev := ev) c (boy + 1) (bwM w L (boy, ev) b) (fun z hz => by
      rcases bwM_sub hz with e | e
      · rw [e]; exact Nat.lt_succ_self _
      · have := h z e; omega) q hq
    omega
theorem boW_need {w L ev p : Nat} (hL : 1 ≤ L) : ∀ (c boy : Nat) (b : Bd), b.length ≤ cap w L → (∀ q ∈ b, q.1 < boy) → p < boy → need (cap w L) p (boW w L ev c boy b) = need (cap w L) p b - c ∧ (boW w L ev c boy b).length ≤ cap w L
  | 0, boy, b, h1, _, _ => ⟨rfl, h1⟩
  | c + 1, boy, b, h1, h2, h3 => by
    have e := bwM_boy (t := ev) hL h1 (fun q hq => Nat.ne_of_lt (h2 q hq))
    have hn : need (cap w L) p (bwM w L (boy, ev) b) = need (cap w L) p b - 1 := by rw [e]; exact need_boy (by omega) h1
    have ih := boW_need (ev := ev) (p := p) hL c (boy + 1) (bwM w L (boy, ev) b) (bwM_capL hL h1) (fun z hz => by
      rcases bwM_sub hz with e | e
      · rw [e]; exact Nat.lt_succ_self _
      · have := h2 z e; omega) (by omega)
    refine ⟨?_, ih.2⟩
    show need (cap w L) p (boW w L ev c (boy + 1) (bwM w L (boy, ev) b)) = _
    rw [ih.1, hn]
    omega
theorem pout_out {w L p : Nat} (hL : 1 ≤ L) (hp : p ≠ 8) : ∀ (f : Nat) (b : Bd), b.length ≤ cap w L → need (cap w L) p b ≤ f → bfind p (pout w L p f b).2 = none ∧ (pout w L p f b).2.length ≤ cap w L
  | 0, b, hb, hf => ⟨(need_0 hb).mp (by omega), hb⟩
  | f + 1, b, hb, hf => by
    unfold pout
    by_cases hh : bhas p b = true
    · have hnb : need (cap w L) p (bw w L (8, 0) b) = need (cap w L) p b - 1 := by rw [bw_boy (t := 0) hL hb]; exact need_boy (fun z => hp z.symm) hb
      rw [if_pos hh]
      exact pout_out hL hp f (bw w L (8, 0) b) (bw_capL hL hb) (by omega)
    · rw [if_neg hh]
      refine ⟨?_, hb⟩
      unfold bhas at hh
      cases hz : bfind p b with
      | none => rfl
      | some z => rw [hz] at hh; exact absurd rfl hh
/-! what the looks need -/
def ndL (w L : Nat) (cs : Nat → Nat) (m p : Nat) : Nat → Nat → Bd → List Nat
  | 0, _, _ => []
  | f + 1, i, b => if lk1 m (cs i) = true then (pout w L p L (bst w L cs i b)).1 :: ndL w L cs m p f (i + 1) (pout w L p L (bst w L cs i b)).2 else ndL w L cs m p f (i + 1) (bst w L cs i b)
def geL (pf : Nat → Nat) : Nat → List Nat → Prop
  | _, [] => True
  | k, x :: l => x ≤ pf k ∧ geL pf (k + 1) l
theorem ndL_len {w L : Nat} {cs : Nat → Nat} {m p : Nat} : ∀ (f i : Nat) (b : Bd), (ndL w L cs m p f i b).length = cntF (fun j => lk1 m (cs j)) f i
  | 0, _, _ => rfl
  | f + 1, i, b => by
    unfold ndL cntF
    by_cases h : lk1 m (cs i) = true
    · rw [if_pos h, if_pos h, List.length_cons, ndL_len f (i + 1)]; omega
    · rw [if_neg h, if_neg h, ndL_len f (i + 1)]; omega
theorem lk1_of {cs : Nat → Nat} {n m i : Nat} (hoc : okC n cs) (hi : i < n) : lk1 m (cs i) = ofP m (dvF cs i) := by
  unfold lk1 ofP dvF
  rcases hoc i hi with q | q
  · obtain ⟨-, e2, e3⟩ := dv_cr q
    rw [e3, decide_eq_false (by omega)]; rfl
  · obtain ⟨-, e2, e3, -⟩ := dv_lk q
    rw [e2, decide_eq_true e3]; rfl
theorem hid_nd {w L : Nat} {cs : Nat → Nat} {n m p : Nat} {pf : Nat → Nat} (hoc : okC n cs) (hL : 1 ≤ L) (hp : p < 8) :
    ∀ (f i lk boy : Nat) (b b' : Bd), i + f ≤ n → pp p (nm b) = pp p (nm b') → b.length ≤ cap w L → b'.length ≤ cap w L → (∀ q ∈ b', q.1 < boy) → 100 ≤ boy →
      (hidA w L (dvF cs) m p pf f i lk boy b' = true ↔ geL pf lk (ndL w L cs m p f i b))
  | 0, _, _, _, _, _, _, _, _, _, _, _ => ⟨fun _ => trivial, fun _ => rfl⟩
  | f + 1, i, lk, boy, b, b', hi, hE, h1, h2, h3, h4 => by
    unfold hidA ndL
    rw [lk1_of hoc (by omega)]
    rcases hoc i (by omega) with q | q
    · obtain ⟨e1, e2, e3⟩ := dv_cr q
      have h16 : dvF cs i < 8 := by unfold dvF; omega
      have hof : ofP m (dvF cs i) = false := by unfold ofP; rw [decide_eq_false (by omega)]; rfl
      rw [if_pos (show dvF cs i < 16 by omega), hof, if_neg (by decide)]
      have hbs : bst w L cs i b = bwM w L (dvF cs i, i + 1) b := by
        unfold bst
        rw [e1]
        dsimp only
        rw [bw_bwM (by show dvN (cs i) ≠ 8; omega)]
        rfl
      refine hid_nd hoc hL hp f (i + 1) lk boy _ _ (by omega) ?_ (by rw [hbs]; exact bwM_capL hL h1) (bwM_capL hL h2) (fun z hz => ?_) h4
      · rw [hbs, nm_bwM hL h1, nm_bwM hL h2]
        exact pp_push hE
      · rcases bwM_sub hz with e | e
        · rw [e]; show dvF cs i < boy; omega
        · exact h3 z e
    · obtain ⟨e1, e2, e3, e4⟩ := dv_lk q
      have h16 : ¬ dvF cs i < 16 := by unfold dvF; omega
      have hbs : bst w L cs i b = b := by unfold bst; rw [e1]
      rw [if_neg h16, hbs]
      by_cases hof : ofP m (dvF cs i) = true
      · rw [if_pos hof, if_pos hof]
        have hn := boW_need (w := w) (ev := i) hL (p := p) (pf lk) boy b' h2 h3 (by omega)
        have hnd := pp_need (c := cap w L) hE
        have hpo := pout_need (w := w) hL (by omega : p ≠ 8) L b h1 (Nat.le_trans need_le (cap_le hL))
        have hpz := pout_out (w := w) hL (by omega : p ≠ 8) L b h1 (Nat.le_trans need_le (cap_le hL))
        show _ ↔ (pout w L p L b).1 ≤ pf lk ∧ geL pf (lk + 1) _
        rw [hpo, hnd]
        by_cases hz : bfind p (boW w L i (pf lk) boy b') = none
        · have hle : need (cap w L) p b' ≤ pf lk := by
            have := (need_0 hn.2).mpr hz
            omega
          rw [hz, if_neg (by decide)]
          have ih := hid_nd (pf := pf) (m := m) hoc hL hp f (i + 1) (lk + 1) (boy + pf lk) (pout w L p L b).2 (boW w L i (pf lk) boy b') (by omega) (by rw [pp_none.mpr hz, pp_none.mpr hpz.1]) hpz.2 hn.2 (boW_nm (pf lk) boy b' h3) (by omega)
          rw [ih]
          exact ⟨fun h => ⟨hle, h⟩, fun h => h.2⟩
        · have hgt : ¬ need (cap w L) p b' ≤ pf lk := fun hle => hz ((need_0 hn.2).mp (by omega))
          have hs : (bfind p (boW w L i (pf lk) boy b')).isSome = true := by
            cases hb : bfind p (boW w L i (pf lk) boy b') with
            | none => exact absurd hb hz
            | some z => rfl
          rw [hs, if_pos rfl]
          exact ⟨fun h => (by cases h), fun h => absurd h.1 hgt⟩
      · rw [if_neg hof, if_neg hof]
        exact hid_nd hoc hL hp f (i + 1) lk boy b b' (by omega) hE h1 h2 h3 h4
