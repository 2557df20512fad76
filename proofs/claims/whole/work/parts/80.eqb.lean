/-! the answers are equal: boards -/
def tg (q : Nat × Nat) : Nat × Nat := (q.1, q.2 + 1)
theorem bfind_map {f : Nat × Nat → Nat × Nat} (hf : ∀ q, (f q).1 = q.1) (p : Nat) : ∀ b : Bd, bfind p (b.map f) = bfind p b
  | [] => rfl
  | q :: b => by rw [List.map_cons, bfind_cons, bfind_cons, hf q, bfind_map hf p b]
theorem bdrop_map {f : Nat × Nat → Nat × Nat} (hf : ∀ q, (f q).1 = q.1) (p : Nat) (b : Bd) : bdrop p (b.map f) = (bdrop p b).map f := by
  unfold bdrop
  rw [bfind_map hf]
  cases bfind p b with
  | none => rfl
  | some i => exact erase_map f b i
theorem bwM_map {w L p t t' : Nat} {f : Nat × Nat → Nat × Nat} (hf : ∀ q, (f q).1 = q.1) (hft : f (p, t) = (p, t')) (b : Bd) : bwM w L (p, t') (b.map f) = (bwM w L (p, t) b).map f := by
  unfold bwM
  dsimp only
  have e1 : (if w = 1 then bdrop p (b.map f) else b.map f) = (if w = 1 then bdrop p b else b).map f := by
    split
    · exact bdrop_map hf p b
    · rfl
  rw [e1, ← hft, ← List.map_cons, ← List.map_take]
  split
  · exact erase_map f _ _
  · rfl
theorem bw_bwM {w L : Nat} {e : Nat × Nat} {b : Bd} (h : e.1 ≠ 8) : bw w L e b = bwM w L e b := by
  unfold bw bwM
  dsimp only
  have e1 : (if w = 1 ∧ e.1 ≠ 8 then bdrop e.1 b else b) = if w = 1 then bdrop e.1 b else b := by
    by_cases hw : w = 1
    · rw [if_pos ⟨hw, h⟩, if_pos hw]
    · rw [if_neg (fun q => hw q.1), if_neg hw]
  rw [e1]
theorem tg_1 (q : Nat × Nat) : (tg q).1 = q.1 := rfl
theorem dv_cr {c : Nat} (h : 65 ≤ c ∧ c < 73) : crN c = some (dvN c) ∧ dvN c < 8 ∧ lkN c = none := by
  unfold crN dvN lkN
  rw [if_pos h, if_neg (by omega), if_neg (by omega)]
  exact ⟨rfl, by omega, rfl⟩
theorem dv_lk {c : Nat} (h : 97 ≤ c ∧ c < 105) : crN c = none ∧ lkN c = some (dvN c - 16) ∧ 16 ≤ dvN c ∧ dvN c < 24 := by
  unfold crN dvN lkN
  rw [if_neg (by omega), if_pos h, if_pos h]
  exact ⟨rfl, by congr 1; omega, by omega, by omega⟩
theorem bst_mst {w L : Nat} {cs : Nat → Nat} {j n : Nat} (hoc : okC n cs) (hj : j < n) (b : Bd) : bst w L cs j (b.map tg) = (mst w L (dvF cs) j b).map tg := by
  unfold bst mst dvF
  rcases hoc j hj with q | q
  · obtain ⟨e1, e2, -⟩ := dv_cr q
    rw [e1, if_pos (by omega)]
    dsimp only
    rw [bw_bwM (by show dvN (cs j) ≠ 8; omega)]
    exact bwM_map tg_1 rfl b
  · obtain ⟨e1, -, e2, -⟩ := dv_lk q
    rw [e1, if_neg (by omega)]
theorem bdR_mR {w L : Nat} {cs : Nat → Nat} {n : Nat} (hoc : okC n cs) : ∀ j, j ≤ n → bdR w L cs j = (mR w L (dvF cs) j).map tg
  | 0, _ => rfl
  | j + 1, hj => by
    rw [bdR, bdR_mR hoc j (by omega), mR_s]
    exact bst_mst hoc (by omega) _
theorem gd_c {r x y : Int32} (h : r = 0 → x = y) : gd r x = gd r y := by
  unfold gd
  split
  · rename_i hr; exact h hr
  · rfl
theorem bat_map (b : Bd) (p : Nat) : bat (b.map tg) p = bat b p := by
  unfold bat
  rw [List.getElem?_map]
  cases b[p]? <;> rfl
theorem pplA_map : ∀ (b : Bd) (a : Nat), pplA a (b.map tg) = pplA a b
  | [], _ => rfl
  | q :: b, a => by rw [List.map_cons, pplA, pplA, pplA_map b]; rfl
theorem ppl_map (b : Bd) : ppl (b.map tg) = ppl b := pplA_map b 0
theorem aStT_le {n : Nat} {e : Int32} (h : -1 ≤ e.toInt ∧ e.toInt ≤ n) : aStT n e ≤ n := by
  unfold aStT
  split
  · exact Nat.le_refl _
  · omega
theorem q_stands (n : Nat) (cs : Nat → Nat) (L w : Nat) (e p : Int32) : aStandsM n cs L w e p = aStands n cs L w e p := by
  unfold aStandsM aStands
  split
  · rename_i h
    refine gd_c (fun hr => ?_)
    have hle := aStT_le h.2.2
    rw [bdR_mR (okC_of hr hle) _ (Nat.le_refl _), bat_map]
  · rfl
theorem q_stood (n : Nat) (cs : Nat → Nat) (w : Nat) (v : Int32) : aStoodM n cs w v = aStood n cs w v := by
  unfold aStoodM aStood
  split
  · refine gd_c (fun hr => ?_)
    rw [bdR_mR (okC_of hr (Nat.le_refl _)) _ (Nat.le_refl _), ppl_map]
  · rfl
/-! what one has read -/
theorem rpA_grA {w L : Nat} {cs : Nat → Nat} {n p : Nat} (hoc : okC n cs) (R0 Z0 : Nat → Nat) :
    ∀ (f i : Nat), i + f = n → (rpA w L cs p f i (bdR w L cs i) ((grA w L (dvF cs) R0 Z0 i).2.1 p)).1 = (grA w L (dvF cs) R0 Z0 n).2.1 p
  | 0, i, hi => by
    have : i = n := by omega
    subst this; rfl
  | f + 1, i, hi => by
    have ih := rpA_grA (w := w) (L := L) (p := p) hoc R0 Z0 f (i + 1) (by omega)
    unfold rpA
    rw [show bst w L cs i (bdR w L cs i) = bdR w L cs (i + 1) from rfl]
    rw [← ih]
    congr 2
    have hb := grA_b w L (dvF cs) R0 Z0 i
    rw [grA, grS]
    rcases hoc i (by omega) with q | q
    · obtain ⟨-, e2, e3⟩ := dv_cr q
      have h16 : dvF cs i < 16 := by unfold dvF; omega
      rw [e3, if_neg (by simp)]
      simp only [if_pos h16]
    · obtain ⟨e1, e2, e3, e4⟩ := dv_lk q
      have h16 : ¬ dvF cs i < 16 := by unfold dvF; omega
      rw [e2]
      simp only [if_neg h16]
      have hbb : bdR w L cs (i + 1) = bdR w L cs i := by rw [bdR, bst, e1]
      rw [hbb, bdR_mR hoc i (by omega), ppl_map, hb]
      unfold csU dvF
      by_cases hp : p = dvN (cs i) - 16
      · rw [if_pos (by rw [hp]), if_pos hp, ← hp]
      · rw [if_neg (fun z => hp (by injection z with z; omega)), if_neg hp]
theorem q_read (n : Nat) (cs : Nat → Nat) (L w : Nat) (R Z : Nat → Nat) (p : Int32) : aReadM n cs L w R Z p = aRead n cs L w p := by
  unfold aReadM aRead rfP
  by_cases hp : 0 ≤ p ∧ p < 8
  · rw [if_pos hp, if_pos hp]
    refine gd_c (fun hr => ?_)
    obtain ⟨q, hq8, rfl, hqn⟩ := isP_of hp
    rw [hqn]
    have := rpA_grA (w := w) (L := L) (p := q) (okC_of hr (Nat.le_refl _)) (gr0 R) Z n 0 (by omega)
    have e0 : (grA w L (dvF cs) (gr0 R) Z 0).2.1 q = 0 := by show gr0 R q = 0; unfold gr0 mixN; rw [if_pos hq8]
    rw [e0] at this
    unfold rdM
    rw [← this]
    rfl
  · rw [if_neg hp, if_neg hp]
    rfl
