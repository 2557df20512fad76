/-! the board: a list of (name, tag), the newest first; a tag is 0 or an event and 1 -/
abbrev Bd : Type := List (Nat × Nat)
def bN (b : Bd) : Nat := dg 16 (b.map (fun q => q.1 + 1))
def bW (b : Bd) : Nat := dg 64 (b.map (fun q => q.2))
def okB (L : Nat) (b : Bd) : Prop := 1 ≤ L ∧ L ≤ 9 ∧ b.length ≤ L ∧ ∀ q ∈ b, q.1 ≤ 8 ∧ q.2 < 64
abbrev x_bd0 (i1 i2 : Int32) (l1 l2 l3 l4 : Int64) : x_E := .inr (0, [.int i1, .int i2, .long l1, .long l2, .long l3, .long l4])
abbrev x_bd (L w : Nat) (b : Bd) : x_E := x_bd0 (nI L) (nI w) (lN (2 ^ (4 * L) - 1)) (lN (2 ^ (6 * L) - 1)) (lN (bN b)) (lN (bW b))
def bfind (nm : Nat) (b : Bd) : Option Nat := b.findIdx? (fun q => q.1 == nm)
def bdrop (nm : Nat) (b : Bd) : Bd := match bfind nm b with
  | some i => b.eraseIdx i
  | none => b
def bw (w L : Nat) (e : Nat × Nat) (b : Bd) : Bd :=
  let b1 := if w = 1 ∧ e.1 ≠ 8 then bdrop e.1 b else b
  let b2 := (e :: b1).take L
  if w = 2 then b2.eraseIdx ((L + 1) / 2 - 1) else b2
def oI : Option Nat → Int32
  | some i => nI i
  | none => -1
theorem erase_map {α β : Type} (f : α → β) : ∀ (l : List α) (p : Nat), (l.map f).eraseIdx p = (l.eraseIdx p).map f
  | [], _ => by simp
  | _ :: _, 0 => by simp
  | _ :: l, p + 1 => by simp [erase_map f l p]
theorem okB_dN {L : Nat} {b : Bd} (h : okB L b) : ∀ x ∈ b.map (fun q => q.1 + 1), x < 16 := by
  intro x hx
  obtain ⟨q, hq, rfl⟩ := List.mem_map.mp hx
  have := (h.2.2.2 q hq).1
  omega
theorem okB_dW {L : Nat} {b : Bd} (h : okB L b) : ∀ x ∈ b.map (fun q => q.2), x < 64 := by
  intro x hx
  obtain ⟨q, hq, rfl⟩ := List.mem_map.mp hx
  exact (h.2.2.2 q hq).2
theorem pow16 (n : Nat) : 16 ^ n = 2 ^ (4 * n) := by rw [Nat.pow_mul]
theorem pow64 (n : Nat) : 64 ^ n = 2 ^ (6 * n) := by rw [Nat.pow_mul]
theorem okB_N {L : Nat} {b : Bd} (h : okB L b) : bN b < 2 ^ (4 * L) := by
  have h1 := dg_lt (B := 16) (by decide) _ (okB_dN h)
  rw [List.length_map, pow16] at h1
  exact Nat.lt_of_lt_of_le h1 (Nat.pow_le_pow_right (by decide) (by have := h.2.2.1; omega))
theorem okB_W {L : Nat} {b : Bd} (h : okB L b) : bW b < 2 ^ (6 * L) := by
  have h1 := dg_lt (B := 64) (by decide) _ (okB_dW h)
  rw [List.length_map, pow64] at h1
  exact Nat.lt_of_lt_of_le h1 (Nat.pow_le_pow_right (by decide) (by have := h.2.2.1; omega))
theorem okB_N36 {L : Nat} {b : Bd} (h : okB L b) : bN b < 2 ^ 36 := Nat.lt_of_lt_of_le (okB_N h) (Nat.pow_le_pow_right (by decide) (by have := h.2.1; omega))
theorem okB_W54 {L : Nat} {b : Bd} (h : okB L b) : bW b < 2 ^ 54 := Nat.lt_of_lt_of_le (okB_W h) (Nat.pow_le_pow_right (by decide) (by have := h.2.1; omega))
theorem okB_nil {L : Nat} (h1 : 1 ≤ L) (h2 : L ≤ 9) : okB L [] := ⟨h1, h2, Nat.zero_le _, fun q hq => by cases hq⟩
theorem okB_erase {L : Nat} {b : Bd} (h : okB L b) (i : Nat) : okB L (b.eraseIdx i) :=
  ⟨h.1, h.2.1, Nat.le_trans (List.length_eraseIdx_le _ _) h.2.2.1, fun q hq => h.2.2.2 q (List.mem_of_mem_eraseIdx hq)⟩
theorem okB_drop {L : Nat} {b : Bd} (h : okB L b) (nm : Nat) : okB L (bdrop nm b) := by
  unfold bdrop
  split
  · exact okB_erase h _
  · exact h
theorem okB_bw {L w : Nat} {b : Bd} {e : Nat × Nat} (h : okB L b) (h1 : e.1 ≤ 8) (h2 : e.2 < 64) : okB L (bw w L e b) := by
  have hb1 : okB L (if w = 1 ∧ e.1 ≠ 8 then bdrop e.1 b else b) := by
    split
    · exact okB_drop h _
    · exact h
  have hb2 : okB L ((e :: (if w = 1 ∧ e.1 ≠ 8 then bdrop e.1 b else b)).take L) := by
    refine ⟨h.1, h.2.1, by rw [List.length_take]; exact Nat.min_le_left _ _, fun q hq => ?_⟩
    rcases List.mem_cons.mp (List.mem_of_mem_take hq) with rfl | hq
    · exact ⟨h1, h2⟩
    · exact hb1.2.2.2 q hq
  unfold bw
  dsimp only
  split
  · exact okB_erase hb2 _
  · exact hb2
theorem bN_erase {L : Nat} {b : Bd} (h : okB L b) (p : Nat) : bN b / 2 ^ (4 * p + 4) * 2 ^ (4 * p) + bN b % 2 ^ (4 * p) = bN (b.eraseIdx p) := by
  have e1 : 2 ^ (4 * p + 4) = 16 ^ (p + 1) := by rw [pow16]; congr 1
  rw [e1, ← pow16]
  by_cases hp : p < b.length
  · have := dg_erase (B := 16) (by decide) p _ (okB_dN h) (by simpa using hp)
    unfold bN
    rw [this, erase_map]
  · have := dg_erase_out (B := 16) (by decide) p _ (okB_dN h) (by simpa using hp)
    unfold bN
    rw [this, List.eraseIdx_of_length_le (by omega)]
theorem bW_erase {L : Nat} {b : Bd} (h : okB L b) (p : Nat) : bW b / 2 ^ (6 * p + 6) * 2 ^ (6 * p) + bW b % 2 ^ (6 * p) = bW (b.eraseIdx p) := by
  have e1 : 2 ^ (6 * p + 6) = 64 ^ (p + 1) := by rw [pow64]; congr 1
  rw [e1, ← pow64]
  by_cases hp : p < b.length
  · have := dg_erase (B := 64) (by decide) p _ (okB_dW h) (by simpa using hp)
    unfold bW
    rw [this, erase_map]
  · have := dg_erase_out (B := 64) (by decide) p _ (okB_dW h) (by simpa using hp)
    unfold bW
    rw [this, List.eraseIdx_of_length_le (by omega)]
theorem bN_push {L : Nat} {b : Bd} (h : okB L b) {e : Nat × Nat} (he : e.1 ≤ 8) : (bN b * 2 ^ 4 + (e.1 + 1)) % 2 ^ (4 * L) = bN ((e :: b).take L) := by
  have e1 : bN b * 2 ^ 4 + (e.1 + 1) = dg 16 ((e :: b).map (fun q => q.1 + 1)) := by
    simp only [List.map_cons, dg, bN]; omega
  have hd : ∀ x ∈ (e :: b).map (fun q => q.1 + 1), x < 16 := by
    intro x hx
    simp only [List.map_cons] at hx
    rcases List.mem_cons.mp hx with rfl | hx
    · omega
    · exact okB_dN h x hx
  rw [e1, ← pow16, dg_take (by decide) _ _ hd, ← List.map_take]
  rfl
theorem bW_push {L : Nat} {b : Bd} (h : okB L b) {e : Nat × Nat} (he : e.2 < 64) : (bW b * 2 ^ 6 + e.2) % 2 ^ (6 * L) = bW ((e :: b).take L) := by
  have e1 : bW b * 2 ^ 6 + e.2 = dg 64 ((e :: b).map (fun q => q.2)) := by
    simp only [List.map_cons, dg, bW]; omega
  have hd : ∀ x ∈ (e :: b).map (fun q => q.2), x < 64 := by
    intro x hx
    simp only [List.map_cons] at hx
    rcases List.mem_cons.mp hx with rfl | hx
    · exact he
    · exact okB_dW h x hx
  rw [e1, ← pow64, dg_take (by decide) _ _ hd, ← List.map_take]
  rfl
theorem row4 : ∀ L, L ≤ 9 → (1 : Int64) <<< (((4 : Int32) * nI L).toInt64 &&& 63) - 1 = lN (2 ^ (4 * L) - 1) := by decide
theorem row6 : ∀ L, L ≤ 9 → (1 : Int64) <<< (((6 : Int32) * nI L).toInt64 &&& 63) - 1 = lN (2 ^ (6 * L) - 1) := by decide
set_option maxRecDepth 100000 in
set_option maxHeartbeats 4000000 in
theorem cB_begin (d k : Nat) (hk : k < x_N) (h : x_H) {i1 i2 : Int32} {l1 l2 l3 l4 : Int64} (hB : h k = x_bd0 i1 i2 l1 l2 l3 l4) (L w : Nat) (hL : L ≤ 9) : x_Ct d mX0_begin [.ref k, .int (nI L), .int (nI w)] h (fun r h' => r = none ∧ h' = x_up h k (x_bd L w [])) := by
  refine x_enter pnX0_begin (Nat.le_of_ble_eq_true rfl) ?_
  refine x_aload_n (i := 0) dX0_begin_0 rfl rfl ?_
  refine x_iload_n (i := 1) dX0_begin_1 rfl rfl ?_
  refine x_put fpX0_11 dX0_begin_2 (by first | decide | assumption) (by first | assumption | exact x_up_s | (refine (x_up_n (by first | decide | assumption)).trans ?_; first | assumption | exact x_up_s | (refine (x_up_n (by first | decide | assumption)).trans ?_; first | assumption | exact x_up_s | (refine (x_up_n (by first | decide | assumption)).trans ?_; first | assumption | exact x_up_s | (refine (x_up_n (by first | decide | assumption)).trans ?_; first | assumption | exact x_up_s | (refine (x_up_n (by first | decide | assumption)).trans ?_; first | assumption | exact x_up_s | (refine (x_up_n (by first | decide | assumption)).trans ?_; first | assumption | exact x_up_s | (refine (x_up_n (by first | decide | assumption)).trans ?_; first | assumption | exact x_up_s | (refine (x_up_n (by first | decide | assumption)).trans ?_; first | assumption | exact x_up_s | (refine (x_up_n (by first | decide | assumption)).trans ?_; first | assumption | exact x_up_s | (refine (x_up_n (by first | decide | assumption)).trans ?_; first | assumption | exact x_up_s | (refine (x_up_n (by first | decide | assumption)).trans ?_; first | assumption | exact x_up_s | (refine (x_up_n (by first | decide | assumption)).trans ?_; first | assumption | exact x_up_s | (refine (x_up_n (by first | decide | assumption)).trans ?_; first | assumption | exact x_up_s)))))))))))))) rfl rfl (fun _ => rfl) (Nat.le_of_ble_eq_true rfl) rfl ?_
  refine x_aload_n (i := 0) dX0_begin_5 rfl rfl ?_
  refine x_iload_n (i := 2) dX0_begin_6 rfl rfl ?_
  refine x_put fpX0_15 dX0_begin_7 (by first | decide | assumption) (by first | assumption | exact x_up_s | (refine (x_up_n (by first | decide | assumption)).trans ?_; first | assumption | exact x_up_s | (refine (x_up_n (by first | decide | assumption)).trans ?_; first | assumption | exact x_up_s | (refine (x_up_n (by first | decide | assumption)).trans ?_; first | assumption | exact x_up_s | (refine (x_up_n (by first | decide | assumption)).trans ?_; first | assumption | exact x_up_s | (refine (x_up_n (by first | decide | assumption)).trans ?_; first | assumption | exact x_up_s | (refine (x_up_n (by first | decide | assumption)).trans ?_; first | assumption | exact x_up_s | (refine (x_up_n (by first | decide | assumption)).trans ?_; first | assumption | exact x_up_s | (refine (x_up_n (by first | decide | assumption)).trans ?_; first | assumption | exact x_up_s | (refine (x_up_n (by first | decide | assumption)).trans ?_; first | assumption | exact x_up_s | (refine (x_up_n (by first | decide | assumption)).trans ?_; first | assumption | exact x_up_s | (refine (x_up_n (by first | decide | assumption)).trans ?_; first | assumption | exact x_up_s | (refine (x_up_n (by first | decide | assumption)).trans ?_; first | assumption | exact x_up_s | (refine (x_up_n (by first | decide | assumption)).trans ?_; first | assumption | exact x_up_s)))))))))))))) rfl rfl (fun _ => rfl) (Nat.le_of_ble_eq_true rfl) rfl ?_
  refine x_aload_n (i := 0) dX0_begin_10 rfl rfl ?_
  refine x_lconst (v := 1) dX0_begin_11 (by decide) ?_
  refine x_iconst (v := 4) dX0_begin_12 (by decide) ?_
  refine x_iload_n (i := 1) dX0_begin_13 rfl rfl ?_
  refine x_imul dX0_begin_14 ?_
  refine x_lshl dX0_begin_15 ?_
  refine x_lconst (v := 1) dX0_begin_16 (by decide) ?_
  refine x_lsub dX0_begin_17 ?_
  refine x_topl (row4 L hL) ?_
  refine x_put fpX0_18 dX0_begin_18 (by first | decide | assumption) (by first | assumption | exact x_up_s | (refine (x_up_n (by first | decide | assumption)).trans ?_; first | assumption | exact x_up_s | (refine (x_up_n (by first | decide | assumption)).trans ?_; first | assumption | exact x_up_s | (refine (x_up_n (by first | decide | assumption)).trans ?_; first | assumption | exact x_up_s | (refine (x_up_n (by first | decide | assumption)).trans ?_; first | assumption | exact x_up_s | (refine (x_up_n (by first | decide | assumption)).trans ?_; first | assumption | exact x_up_s | (refine (x_up_n (by first | decide | assumption)).trans ?_; first | assumption | exact x_up_s | (refine (x_up_n (by first | decide | assumption)).trans ?_; first | assumption | exact x_up_s | (refine (x_up_n (by first | decide | assumption)).trans ?_; first | assumption | exact x_up_s | (refine (x_up_n (by first | decide | assumption)).trans ?_; first | assumption | exact x_up_s | (refine (x_up_n (by first | decide | assumption)).trans ?_; first | assumption | exact x_up_s | (refine (x_up_n (by first | decide | assumption)).trans ?_; first | assumption | exact x_up_s | (refine (x_up_n (by first | decide | assumption)).trans ?_; first | assumption | exact x_up_s | (refine (x_up_n (by first | decide | assumption)).trans ?_; first | assumption | exact x_up_s)))))))))))))) rfl rfl (fun _ => rfl) (Nat.le_of_ble_eq_true rfl) rfl ?_
  refine x_aload_n (i := 0) dX0_begin_21 rfl rfl ?_
  refine x_lconst (v := 1) dX0_begin_22 (by decide) ?_
  refine x_bipush (v := 6) dX0_begin_23 (by decide) ?_
  refine x_iload_n (i := 1) dX0_begin_25 rfl rfl ?_
  refine x_imul dX0_begin_26 ?_
  refine x_lshl dX0_begin_27 ?_
  refine x_lconst (v := 1) dX0_begin_28 (by decide) ?_
  refine x_lsub dX0_begin_29 ?_
  refine x_topl (row6 L hL) ?_
  refine x_put fpX0_22 dX0_begin_30 (by first | decide | assumption) (by first | assumption | exact x_up_s | (refine (x_up_n (by first | decide | assumption)).trans ?_; first | assumption | exact x_up_s | (refine (x_up_n (by first | decide | assumption)).trans ?_; first | assumption | exact x_up_s | (refine (x_up_n (by first | decide | assumption)).trans ?_; first | assumption | exact x_up_s | (refine (x_up_n (by first | decide | assumption)).trans ?_; first | assumption | exact x_up_s | (refine (x_up_n (by first | decide | assumption)).trans ?_; first | assumption | exact x_up_s | (refine (x_up_n (by first | decide | assumption)).trans ?_; first | assumption | exact x_up_s | (refine (x_up_n (by first | decide | assumption)).trans ?_; first | assumption | exact x_up_s | (refine (x_up_n (by first | decide | assumption)).trans ?_; first | assumption | exact x_up_s | (refine (x_up_n (by first | decide | assumption)).trans ?_; first | assumption | exact x_up_s | (refine (x_up_n (by first | decide | assumption)).trans ?_; first | assumption | exact x_up_s | (refine (x_up_n (by first | decide | assumption)).trans ?_; first | assumption | exact x_up_s | (refine (x_up_n (by first | decide | assumption)).trans ?_; first | assumption | exact x_up_s | (refine (x_up_n (by first | decide | assumption)).trans ?_; first | assumption | exact x_up_s)))))))))))))) rfl rfl (fun _ => rfl) (Nat.le_of_ble_eq_true rfl) rfl ?_
  refine x_aload_n (i := 0) dX0_begin_33 rfl rfl ?_
  refine x_lconst (v := 0) dX0_begin_34 (by decide) ?_
  refine x_put fpX0_25 dX0_begin_35 (by first | decide | assumption) (by first | assumption | exact x_up_s | (refine (x_up_n (by first | decide | assumption)).trans ?_; first | assumption | exact x_up_s | (refine (x_up_n (by first | decide | assumption)).trans ?_; first | assumption | exact x_up_s | (refine (x_up_n (by first | decide | assumption)).trans ?_; first | assumption | exact x_up_s | (refine (x_up_n (by first | decide | assumption)).trans ?_; first | assumption | exact x_up_s | (refine (x_up_n (by first | decide | assumption)).trans ?_; first | assumption | exact x_up_s | (refine (x_up_n (by first | decide | assumption)).trans ?_; first | assumption | exact x_up_s | (refine (x_up_n (by first | decide | assumption)).trans ?_; first | assumption | exact x_up_s | (refine (x_up_n (by first | decide | assumption)).trans ?_; first | assumption | exact x_up_s | (refine (x_up_n (by first | decide | assumption)).trans ?_; first | assumption | exact x_up_s | (refine (x_up_n (by first | decide | assumption)).trans ?_; first | assumption | exact x_up_s | (refine (x_up_n (by first | decide | assumption)).trans ?_; first | assumption | exact x_up_s | (refine (x_up_n (by first | decide | assumption)).trans ?_; first | assumption | exact x_up_s | (refine (x_up_n (by first | decide | assumption)).trans ?_; first | assumption | exact x_up_s)))))))))))))) rfl rfl (fun _ => rfl) (Nat.le_of_ble_eq_true rfl) rfl ?_
  refine x_aload_n (i := 0) dX0_begin_38 rfl rfl ?_
  refine x_lconst (v := 0) dX0_begin_39 (by decide) ?_
  refine x_put fpX0_28 dX0_begin_40 (by first | decide | assumption) (by first | assumption | exact x_up_s | (refine (x_up_n (by first | decide | assumption)).trans ?_; first | assumption | exact x_up_s | (refine (x_up_n (by first | decide | assumption)).trans ?_; first | assumption | exact x_up_s | (refine (x_up_n (by first | decide | assumption)).trans ?_; first | assumption | exact x_up_s | (refine (x_up_n (by first | decide | assumption)).trans ?_; first | assumption | exact x_up_s | (refine (x_up_n (by first | decide | assumption)).trans ?_; first | assumption | exact x_up_s | (refine (x_up_n (by first | decide | assumption)).trans ?_; first | assumption | exact x_up_s | (refine (x_up_n (by first | decide | assumption)).trans ?_; first | assumption | exact x_up_s | (refine (x_up_n (by first | decide | assumption)).trans ?_; first | assumption | exact x_up_s | (refine (x_up_n (by first | decide | assumption)).trans ?_; first | assumption | exact x_up_s | (refine (x_up_n (by first | decide | assumption)).trans ?_; first | assumption | exact x_up_s | (refine (x_up_n (by first | decide | assumption)).trans ?_; first | assumption | exact x_up_s | (refine (x_up_n (by first | decide | assumption)).trans ?_; first | assumption | exact x_up_s | (refine (x_up_n (by first | decide | assumption)).trans ?_; first | assumption | exact x_up_s)))))))))))))) rfl rfl (fun _ => rfl) (Nat.le_of_ble_eq_true rfl) rfl ?_
  refine x_vret dX0_begin_43 rfl ⟨rfl, ?_⟩
  simp only [x_up_up]
  rfl
