/-! more rules of the abstract machine -/
def x_ls (l : List (Option Value)) : x_L := fun j => l.getD j none
def x_al (ls : x_L) : Nat → List (Option Value) → Prop
  | _, [] => True
  | i, none :: r => x_al ls (i + 1) r
  | i, some v :: r => ls i = some v ∧ x_al ls (i + 1) r
theorem x_al_get {ls : x_L} : ∀ (l : List (Option Value)) (i j : Nat) (v : Value), x_al ls i l → l.getD j none = some v → ls (i + j) = some v
  | [], _, _, _, _, h => by simp at h
  | none :: r, i, 0, v, _, h => by simp at h
  | none :: r, i, j + 1, v, h1, h => by
    have := x_al_get r (i + 1) j v h1 (by simpa using h)
    rw [show i + (j + 1) = i + 1 + j by omega]; exact this
  | some u :: r, i, 0, v, h1, h => by
    have : u = v := by simpa using h
    subst this
    exact h1.1
  | some u :: r, i, j + 1, v, h1, h => by
    have := x_al_get r (i + 1) j v h1.2 (by simpa using h)
    rw [show i + (j + 1) = i + 1 + j by omega]; exact this
section XV3
variable {d : Nat} {M : x_M} {pc : Nat} {ls : x_L} {st : List Value} {h : x_H} {Q : Option Value → x_H → Prop}
/-- fewer locals -/
theorem x_wk {l : List (Option Value)} (k : x_V d M pc (x_ls l) st h Q) (hl : x_al ls 0 l) : x_V d M pc ls st h Q := by
  intro p l' e s m args below meth c D dA ad A lsc H locs E Wd Lc
  exact k p l' e s m args below meth c D dA ad A lsc H locs E Wd ⟨Lc.1, Lc.2.1, fun i v hv => Lc.2.2 i v (by have := x_al_get l 0 i v hl hv; rwa [Nat.zero_add] at this)⟩
theorem x_topi {x y : Int32} (e : x = y) (k : x_V d M pc ls (.int y :: st) h Q) : x_V d M pc ls (.int x :: st) h Q := e ▸ k
theorem x_topl {x y : Int64} (e : x = y) (k : x_V d M pc ls (.long y :: st) h Q) : x_V d M pc ls (.long x :: st) h Q := e ▸ k
theorem x_hp {h' : x_H} (e : h = h') (k : x_V d M pc ls st h' Q) : x_V d M pc ls st h Q := e ▸ k
/-- Math.max -/
theorem x_mmax {idx : Nat} {x y : Int32} (hlk : Cond.methodLink M.1.cls idx yJ9_max_7cf53 ∈ x_base) (hd : decode M.2.1 pc = .ok (.invokestatic idx, 3)) (hdd : 1 ≤ d) (hw : (st.map fun v => v.category).sum ≤ 8) (k : x_V d M (pc + 3) ls (.int (if x < y then y else x) :: st) h Q) : x_V d M pc ls (.int y :: .int x :: st) h Q := by
  intro p l e s m args below meth c D dA ad A lsc H locs E Wd Lc
  have hts := E.2.2.2.2.2.1
  have hcb := cbJ9_max_7cf53
  have hst := clX2_122.2.2
  refine va_mmax E.1 E.2.1 (E.2.2.2.1.trans Lc.1.symm) E.2.2.2.2.1 (hts _ (List.mem_cons_of_mem _ hlk)) (hts _ (List.mem_cons_of_mem _ hst)) (hts _ (List.mem_cons_of_mem _ hcb.2.1)) (hts _ (List.mem_cons_of_mem _ hcb.1)) ?_ ?_ (Nat.le_refl _) (Nat.le_refl _) hd (k p l e s m args below meth c D dA ad A lsc H locs E Wd Lc)
  · show 1 ≤ d; exact hdd
  · show _ + 13 ≤ 40 * d
    have : ((st.map (x_t ad)).map fun v => v.category).sum ≤ 8 := by rw [List.map_map]; simpa [Function.comp_def, x_t_cat] using hw
    omega
theorem x_incN {i n : Nat} (hd : decode M.2.1 pc = .ok (.iinc i 1, 3)) (hl : ls i = some (.int (nI n))) (hn : i < M.2.2.1) (k : x_V d M (pc + 3) (x_s1 ls i (.int (nI (n + 1)))) st h Q) : x_V d M pc ls st h Q := x_iinc hd hl (nI_1 n) hn k
end XV3
theorem lg_cmp0 (x y : Int64) : lg_cmp x y = 0 ↔ x = y := by
  unfold lg_cmp
  by_cases h1 : x > y
  · rw [if_pos h1]
    constructor
    · intro h; exact absurd h (by decide)
    · intro h; subst h; exact absurd h1 Int64.lt_irrefl
  · rw [if_neg h1]
    by_cases h2 : x = y
    · simp [h2]
    · rw [if_neg h2]
      constructor
      · intro h; exact absurd h (by decide)
      · intro h; exact absurd h h2
theorem nl_mul (a b : Nat) : (OfNat.ofNat a : Int32) * nI b = nI (a * b) := pk_mul a b
theorem nI_toL {n : Nat} (h : n < 2 ^ 31) : (nI n).toInt64 = lN n := nI_l h
theorem nI_inj {a b : Nat} (ha : a < 2 ^ 31) (hb : b < 2 ^ 31) (h : nI a = nI b) : a = b := (nI_eq ha hb).mp h
theorem nI_neg1 {n : Nat} (h : n < 2 ^ 31) : nI n ≠ -1 := by
  intro e
  have h1 := nI_toInt h
  rw [e] at h1
  have : (-1 : Int32).toInt = -1 := by decide
  omega
