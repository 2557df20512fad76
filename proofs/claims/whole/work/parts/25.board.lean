theorem n_or (a b : Nat) : nI a ||| nI b = nI (a ||| b) := by
  apply Int32.toBitVec_inj.1
  show BitVec.ofNat 32 a ||| BitVec.ofNat 32 b = BitVec.ofNat 32 (a ||| b)
  apply BitVec.eq_of_getLsbD_eq
  intro i hi
  simp [hi]
theorem n_and (a b : Nat) : nI a &&& nI b = nI (a &&& b) := by
  apply Int32.toBitVec_inj.1
  show BitVec.ofNat 32 a &&& BitVec.ofNat 32 b = BitVec.ofNat 32 (a &&& b)
  apply BitVec.eq_of_getLsbD_eq
  intro i hi
  simp [hi]
theorem l_or (a b : Nat) : lN a ||| lN b = lN (a ||| b) := by
  apply Int64.toBitVec_inj.1
  show BitVec.ofNat 64 a ||| BitVec.ofNat 64 b = BitVec.ofNat 64 (a ||| b)
  apply BitVec.eq_of_getLsbD_eq
  intro i hi
  simp [hi]
theorem l_and (a b : Nat) : lN a &&& lN b = lN (a &&& b) := by
  apply Int64.toBitVec_inj.1
  show BitVec.ofNat 64 a &&& BitVec.ofNat 64 b = BitVec.ofNat 64 (a &&& b)
  apply BitVec.eq_of_getLsbD_eq
  intro i hi
  simp [hi]
theorem n_one_shl : ∀ p, p < 31 → (1 : Int32) <<< (nI p &&& 31) = nI (2 ^ p) := by decide
theorem l_one_shl {p : Nat} (hp : p < 63) : (1 : Int64) <<< ((nI p).toInt64 &&& 63) = lN (2 ^ p) := by
  have h2 : 2 ^ p < 2 ^ 64 := Nat.pow_lt_pow_right (by decide) (by omega)
  have := q_shl (n := 1) (k := p) (by omega) (by omega)
  rw [Nat.one_mul] at this
  exact this
def bhas (nm : Nat) (b : Bd) : Bool := (bfind nm b).isSome
def b2I (c : Bool) : Int32 := if c then 1 else 0
set_option maxRecDepth 100000 in
set_option maxHeartbeats 4000000 in
theorem cB_holds (d k : Nat) (hk : k < x_N) (h : x_H) {L w : Nat} {b : Bd} (hB : h k = x_bd L w b) (hok : okB L b) (nm : Nat) (hnm : nm ≤ 8) : x_Ct (d + 1) mX0_holds [.ref k, .int (nI nm)] h (fun r h' => r = some (.int (b2I (bhas nm b))) ∧ h' = h) := by
  refine x_enter pnX0_holds (Nat.le_of_ble_eq_true rfl) ?_
  refine x_aload_n (i := 0) dX0_holds_0 rfl rfl ?_
  refine x_iload_n (i := 1) dX0_holds_1 rfl rfl ?_
  refine x_invV clX0_31 dX0_holds_2 (cB_placeOf d k hk h hB hok nm hnm) (by omega) rfl (by first | decide | assumption) (by first | assumption | exact x_up_s | (refine (x_up_n (by first | decide | assumption)).trans ?_; first | assumption | exact x_up_s | (refine (x_up_n (by first | decide | assumption)).trans ?_; first | assumption | exact x_up_s | (refine (x_up_n (by first | decide | assumption)).trans ?_; first | assumption | exact x_up_s | (refine (x_up_n (by first | decide | assumption)).trans ?_; first | assumption | exact x_up_s | (refine (x_up_n (by first | decide | assumption)).trans ?_; first | assumption | exact x_up_s | (refine (x_up_n (by first | decide | assumption)).trans ?_; first | assumption | exact x_up_s | (refine (x_up_n (by first | decide | assumption)).trans ?_; first | assumption | exact x_up_s | (refine (x_up_n (by first | decide | assumption)).trans ?_; first | assumption | exact x_up_s | (refine (x_up_n (by first | decide | assumption)).trans ?_; first | assumption | exact x_up_s | (refine (x_up_n (by first | decide | assumption)).trans ?_; first | assumption | exact x_up_s | (refine (x_up_n (by first | decide | assumption)).trans ?_; first | assumption | exact x_up_s | (refine (x_up_n (by first | decide | assumption)).trans ?_; first | assumption | exact x_up_s | (refine (x_up_n (by first | decide | assumption)).trans ?_; first | assumption | exact x_up_s)))))))))))))) rfl (Nat.le_of_ble_eq_true rfl) ?_
  rintro r h' ⟨rfl, rfl⟩
  unfold bhas
  cases hf : bfind nm b with
  | none =>
    refine x_iconst (v := (-1)) dX0_holds_5 (by decide) ?_
    refine x_icmp_eq 13 dX0_holds_6 (by decide) (fun _ => ?_) (fun hc => absurd (rfl) hc)
    refine x_iconst (v := 0) dX0_holds_13 (by decide) ?_
    refine x_zret dX0_holds_14 rfl (by first | rfl | decide | assumption) ⟨rfl, rfl⟩
  | some i =>
    have hi : i < b.length := (List.findIdx?_eq_some_iff_findIdx_eq.mp hf).1
    have := hok.2.1
    have := hok.2.2.1
    refine x_iconst (v := (-1)) dX0_holds_5 (by decide) ?_
    refine x_icmp_eq 13 dX0_holds_6 (by decide) (fun hc => absurd hc (nI_neg1 (by omega))) (fun _ => ?_)
    refine x_iconst (v := 1) dX0_holds_9 (by decide) ?_
    refine x_goto 14 dX0_holds_10 (by decide) ?_
    refine x_zret dX0_holds_14 rfl (by first | rfl | decide | assumption) ⟨rfl, rfl⟩
set_option maxRecDepth 100000 in
set_option maxHeartbeats 4000000 in
theorem cB_holds_m1 (d k : Nat) (hk : k < x_N) (h : x_H) {i1 i2 : Int32} {l1 l2 l3 l4 : Int64} (hB : h k = x_bd0 i1 i2 l1 l2 l3 l4) : x_Ct (d + 1) mX0_holds [.ref k, .int (-1)] h (fun r h' => r = some (.int 0) ∧ h' = h) := by
  refine x_enter pnX0_holds (Nat.le_of_ble_eq_true rfl) ?_
  refine x_aload_n (i := 0) dX0_holds_0 rfl rfl ?_
  refine x_iload_n (i := 1) dX0_holds_1 rfl rfl ?_
  refine x_invV clX0_31 dX0_holds_2 (cB_placeOf_m1 d k h) (by omega) rfl (by first | decide | assumption) (by first | assumption | exact x_up_s | (refine (x_up_n (by first | decide | assumption)).trans ?_; first | assumption | exact x_up_s | (refine (x_up_n (by first | decide | assumption)).trans ?_; first | assumption | exact x_up_s | (refine (x_up_n (by first | decide | assumption)).trans ?_; first | assumption | exact x_up_s | (refine (x_up_n (by first | decide | assumption)).trans ?_; first | assumption | exact x_up_s | (refine (x_up_n (by first | decide | assumption)).trans ?_; first | assumption | exact x_up_s | (refine (x_up_n (by first | decide | assumption)).trans ?_; first | assumption | exact x_up_s | (refine (x_up_n (by first | decide | assumption)).trans ?_; first | assumption | exact x_up_s | (refine (x_up_n (by first | decide | assumption)).trans ?_; first | assumption | exact x_up_s | (refine (x_up_n (by first | decide | assumption)).trans ?_; first | assumption | exact x_up_s | (refine (x_up_n (by first | decide | assumption)).trans ?_; first | assumption | exact x_up_s | (refine (x_up_n (by first | decide | assumption)).trans ?_; first | assumption | exact x_up_s | (refine (x_up_n (by first | decide | assumption)).trans ?_; first | assumption | exact x_up_s | (refine (x_up_n (by first | decide | assumption)).trans ?_; first | assumption | exact x_up_s)))))))))))))) rfl (Nat.le_of_ble_eq_true rfl) ?_
  rintro r h' ⟨rfl, rfl⟩
  refine x_iconst (v := (-1)) dX0_holds_5 (by decide) ?_
  refine x_icmp_eq 13 dX0_holds_6 (by decide) (fun _ => ?_) (fun hc => absurd (rfl) hc)
  refine x_iconst (v := 0) dX0_holds_13 (by decide) ?_
  refine x_zret dX0_holds_14 rfl (by first | rfl | decide | assumption) ⟨rfl, rfl⟩
/-- whose names stand there, as bits -/
def pplA (acc : Nat) : Bd → Nat
  | [] => acc
  | q :: c => pplA (if q.1 < 8 then acc ||| 2 ^ q.1 else acc) c
def ppl (b : Bd) : Nat := pplA 0 b
set_option maxRecDepth 100000 in
set_option maxHeartbeats 4000000 in
theorem cB_people_loop (d k : Nat) (hk : k < x_N) (h : x_H) {L w : Nat} {b : Bd} (hB : h k = x_bd L w b) (hok : okB L b) (Q : Option Value → x_H → Prop) :
    ∀ (n i acc : Nat) (j3 : Option Value), i + n = L → Q (some (.int (nI (pplA acc (b.drop i))))) h →
      x_V (d + 1) mX0_people 4 (x_ls [some (.ref k), some (.int (nI acc)), some (.int (nI i))]) [] h Q := by
  have hL9 := hok.2.1
  have hlen := hok.2.2.1
  intro n
  induction n with
  | zero =>
    intro i acc j3 hi hq
    refine x_iload_n (i := 2) dX0_people_4 rfl rfl ?_
    refine x_aload_n (i := 0) dX0_people_5 rfl rfl ?_
    refine x_get flX0_11 dX0_people_6 (by first | decide | assumption) (by first | assumption | exact x_up_s | (refine (x_up_n (by first | decide | assumption)).trans ?_; first | assumption | exact x_up_s | (refine (x_up_n (by first | decide | assumption)).trans ?_; first | assumption | exact x_up_s | (refine (x_up_n (by first | decide | assumption)).trans ?_; first | assumption | exact x_up_s | (refine (x_up_n (by first | decide | assumption)).trans ?_; first | assumption | exact x_up_s | (refine (x_up_n (by first | decide | assumption)).trans ?_; first | assumption | exact x_up_s | (refine (x_up_n (by first | decide | assumption)).trans ?_; first | assumption | exact x_up_s | (refine (x_up_n (by first | decide | assumption)).trans ?_; first | assumption | exact x_up_s | (refine (x_up_n (by first | decide | assumption)).trans ?_; first | assumption | exact x_up_s | (refine (x_up_n (by first | decide | assumption)).trans ?_; first | assumption | exact x_up_s | (refine (x_up_n (by first | decide | assumption)).trans ?_; first | assumption | exact x_up_s | (refine (x_up_n (by first | decide | assumption)).trans ?_; first | assumption | exact x_up_s | (refine (x_up_n (by first | decide | assumption)).trans ?_; first | assumption | exact x_up_s | (refine (x_up_n (by first | decide | assumption)).trans ?_; first | assumption | exact x_up_s)))))))))))))) rfl ?_
    refine x_icmp_ge 37 dX0_people_9 (by decide) (fun _ => ?_) (fun hc => absurd (nI_le (by omega) (by omega)) hc)
    refine x_iload_n (i := 1) dX0_people_37 rfl rfl ?_
    rw [List.drop_eq_nil_of_le (by omega)] at hq
    refine x_iret dX0_people_38 rfl hq
  | succ n ih =>
    intro i acc j3 hi hq
    refine x_iload_n (i := 2) dX0_people_4 rfl rfl ?_
    refine x_aload_n (i := 0) dX0_people_5 rfl rfl ?_
    refine x_get flX0_11 dX0_people_6 (by first | decide | assumption) (by first | assumption | exact x_up_s | (refine (x_up_n (by first | decide | assumption)).trans ?_; first | assumption | exact x_up_s | (refine (x_up_n (by first | decide | assumption)).trans ?_; first | assumption | exact x_up_s | (refine (x_up_n (by first | decide | assumption)).trans ?_; first | assumption | exact x_up_s | (refine (x_up_n (by first | decide | assumption)).trans ?_; first | assumption | exact x_up_s | (refine (x_up_n (by first | decide | assumption)).trans ?_; first | assumption | exact x_up_s | (refine (x_up_n (by first | decide | assumption)).trans ?_; first | assumption | exact x_up_s | (refine (x_up_n (by first | decide | assumption)).trans ?_; first | assumption | exact x_up_s | (refine (x_up_n (by first | decide | assumption)).trans ?_; first | assumption | exact x_up_s | (refine (x_up_n (by first | decide | assumption)).trans ?_; first | assumption | exact x_up_s | (refine (x_up_n (by first | decide | assumption)).trans ?_; first | assumption | exact x_up_s | (refine (x_up_n (by first | decide | assumption)).trans ?_; first | assumption | exact x_up_s | (refine (x_up_n (by first | decide | assumption)).trans ?_; first | assumption | exact x_up_s | (refine (x_up_n (by first | decide | assumption)).trans ?_; first | assumption | exact x_up_s)))))))))))))) rfl ?_
    refine x_icmp_ge 37 dX0_people_9 (by decide) (fun hc => absurd hc (nI_ge (by omega) (by omega))) (fun _ => ?_)
    refine x_aload_n (i := 0) dX0_people_12 rfl rfl ?_
    refine x_iload_n (i := 2) dX0_people_13 rfl rfl ?_
    refine x_invV clX0_41 dX0_people_14 (cB_nameAt d k hk h hB hok i (by omega)) (by omega) rfl (by first | decide | assumption) (by first | assumption | exact x_up_s | (refine (x_up_n (by first | decide | assumption)).trans ?_; first | assumption | exact x_up_s | (refine (x_up_n (by first | decide | assumption)).trans ?_; first | assumption | exact x_up_s | (refine (x_up_n (by first | decide | assumption)).trans ?_; first | assumption | exact x_up_s | (refine (x_up_n (by first | decide | assumption)).trans ?_; first | assumption | exact x_up_s | (refine (x_up_n (by first | decide | assumption)).trans ?_; first | assumption | exact x_up_s | (refine (x_up_n (by first | decide | assumption)).trans ?_; first | assumption | exact x_up_s | (refine (x_up_n (by first | decide | assumption)).trans ?_; first | assumption | exact x_up_s | (refine (x_up_n (by first | decide | assumption)).trans ?_; first | assumption | exact x_up_s | (refine (x_up_n (by first | decide | assumption)).trans ?_; first | assumption | exact x_up_s | (refine (x_up_n (by first | decide | assumption)).trans ?_; first | assumption | exact x_up_s | (refine (x_up_n (by first | decide | assumption)).trans ?_; first | assumption | exact x_up_s | (refine (x_up_n (by first | decide | assumption)).trans ?_; first | assumption | exact x_up_s | (refine (x_up_n (by first | decide | assumption)).trans ?_; first | assumption | exact x_up_s)))))))))))))) rfl (Nat.le_of_ble_eq_true rfl) ?_
    rintro r h' ⟨rfl, rfl⟩
    have hbat : bat b i = b[i]?.map (·.1) := rfl
    cases hb : b[i]? with
    | none =>
      rw [hb] at hbat
      rw [show oI (bat b i) = -1 by rw [hbat]; rfl]
      refine x_istore_n (i := 3) dX0_people_17 rfl (by decide) ?_
      refine x_iload_n (i := 3) dX0_people_18 rfl rfl ?_
      refine x_invS clX0_44 dX0_people_19 (c_isPerson d h' (-1)) (by omega) rfl rfl (Nat.le_of_ble_eq_true rfl) ?_
      rintro r h'' ⟨rfl, rfl⟩
      refine x_topi isP_m1 ?_
      refine x_if_eq 31 dX0_people_22 (by decide) (fun _ => ?_) (fun hc => absurd (rfl) hc)
      first | refine x_incN dX0_people_31 rfl (by decide) ?_ | refine x_iinc dX0_people_31 rfl rfl (by decide) ?_
      refine x_goto 4 dX0_people_34 (by decide) ?_
      rw [List.drop_eq_nil_of_le (by have := List.getElem?_eq_none_iff.mp hb; omega)] at hq
      exact x_wk (ih (i + 1) acc none (by omega) (by rw [List.drop_eq_nil_of_le (by have := List.getElem?_eq_none_iff.mp hb; omega)]; exact hq)) ⟨rfl, rfl, rfl, trivial⟩
    | some q =>
      have hq8 := (hok.2.2.2 q (List.mem_of_getElem? hb)).1
      rw [hb] at hbat
      have hdr : b.drop i = q :: b.drop (i + 1) := by
        rw [List.drop_eq_getElem_cons (List.getElem?_eq_some_iff.mp hb).1, (List.getElem?_eq_some_iff.mp hb).2]
      rw [hdr, pplA] at hq
      rw [show oI (bat b i) = nI q.1 by rw [hbat]; rfl]
      refine x_istore_n (i := 3) dX0_people_17 rfl (by decide) ?_
      refine x_iload_n (i := 3) dX0_people_18 rfl rfl ?_
      refine x_invS clX0_44 dX0_people_19 (c_isPerson d h' (nI q.1)) (by omega) rfl rfl (Nat.le_of_ble_eq_true rfl) ?_
      rintro r h'' ⟨rfl, rfl⟩
      refine x_topi (isP_nI (by omega)) ?_
      by_cases h8 : q.1 < 8
      · rw [if_pos h8] at hq ⊢
        refine x_if_eq 31 dX0_people_22 (by decide) (fun hc => absurd hc (by decide)) (fun _ => ?_)
        refine x_iload_n (i := 1) dX0_people_25 rfl rfl ?_
        refine x_iconst (v := 1) dX0_people_26 (by decide) ?_
        refine x_iload_n (i := 3) dX0_people_27 rfl rfl ?_
        refine x_ishl dX0_people_28 ?_
        refine x_ior dX0_people_29 ?_
        refine x_topi (y := nI (acc ||| 2 ^ q.1)) (by rw [n_one_shl _ (by omega), n_or]) ?_
        refine x_istore_n (i := 1) dX0_people_30 rfl (by decide) ?_
        first | refine x_incN dX0_people_31 rfl (by decide) ?_ | refine x_iinc dX0_people_31 rfl rfl (by decide) ?_
        refine x_goto 4 dX0_people_34 (by decide) ?_
        exact x_wk (ih (i + 1) _ none (by omega) hq) ⟨rfl, rfl, rfl, trivial⟩
      · rw [if_neg h8] at hq ⊢
        refine x_if_eq 31 dX0_people_22 (by decide) (fun _ => ?_) (fun hc => absurd (rfl) hc)
        first | refine x_incN dX0_people_31 rfl (by decide) ?_ | refine x_iinc dX0_people_31 rfl rfl (by decide) ?_
        refine x_goto 4 dX0_people_34 (by decide) ?_
        exact x_wk (ih (i + 1) _ none (by omega) hq) ⟨rfl, rfl, rfl, trivial⟩
set_option maxRecDepth 100000 in
set_option maxHeartbeats 4000000 in
theorem cB_people (d k : Nat) (hk : k < x_N) (h : x_H) {L w : Nat} {b : Bd} (hB : h k = x_bd L w b) (hok : okB L b) : x_Ct (d + 1) mX0_people [.ref k] h (fun r h' => r = some (.int (nI (ppl b))) ∧ h' = h) := by
  refine x_enter pnX0_people (Nat.le_of_ble_eq_true rfl) ?_
  refine x_iconst (v := 0) dX0_people_0 (by decide) ?_
  refine x_istore_n (i := 1) dX0_people_1 rfl (by decide) ?_
  refine x_iconst (v := 0) dX0_people_2 (by decide) ?_
  refine x_istore_n (i := 2) dX0_people_3 rfl (by decide) ?_
  exact x_wk (cB_people_loop d k hk h hB hok _ L 0 0 none (by omega) ⟨rfl, rfl⟩) ⟨rfl, rfl, rfl, trivial⟩
/-- whose writings stand there, as bits by their events -/
def wevA (acc : Nat) : Bd → Nat
  | [] => acc
  | q :: c => wevA (if q.2 = 0 then acc else acc ||| 2 ^ (q.2 - 1)) c
def wev (b : Bd) : Nat := wevA 0 b
set_option maxRecDepth 100000 in
set_option maxHeartbeats 4000000 in
theorem cB_writtenEvents_loop (d k : Nat) (hk : k < x_N) (h : x_H) {L w : Nat} {b : Bd} (hB : h k = x_bd L w b) (hok : okB L b) (Q : Option Value → x_H → Prop) :
    ∀ (n i acc : Nat), i + n = L → Q (some (.long (lN (wevA acc (b.drop i))))) h →
      x_V d mX0_writtenEvents 4 (x_ls [some (.ref k), some (.long (lN acc)), none, some (.int (nI i))]) [] h Q := by
  have hL9 := hok.2.1
  have hlen := hok.2.2.1
  have hW := okB_W54 hok
  intro n
  induction n with
  | zero =>
    intro i acc hi hq
    refine x_iload_n (i := 3) dX0_writtenEvents_4 rfl rfl ?_
    refine x_aload_n (i := 0) dX0_writtenEvents_5 rfl rfl ?_
    refine x_get flX0_11 dX0_writtenEvents_6 (by first | decide | assumption) (by first | assumption | exact x_up_s | (refine (x_up_n (by first | decide | assumption)).trans ?_; first | assumption | exact x_up_s | (refine (x_up_n (by first | decide | assumption)).trans ?_; first | assumption | exact x_up_s | (refine (x_up_n (by first | decide | assumption)).trans ?_; first | assumption | exact x_up_s | (refine (x_up_n (by first | decide | assumption)).trans ?_; first | assumption | exact x_up_s | (refine (x_up_n (by first | decide | assumption)).trans ?_; first | assumption | exact x_up_s | (refine (x_up_n (by first | decide | assumption)).trans ?_; first | assumption | exact x_up_s | (refine (x_up_n (by first | decide | assumption)).trans ?_; first | assumption | exact x_up_s | (refine (x_up_n (by first | decide | assumption)).trans ?_; first | assumption | exact x_up_s | (refine (x_up_n (by first | decide | assumption)).trans ?_; first | assumption | exact x_up_s | (refine (x_up_n (by first | decide | assumption)).trans ?_; first | assumption | exact x_up_s | (refine (x_up_n (by first | decide | assumption)).trans ?_; first | assumption | exact x_up_s | (refine (x_up_n (by first | decide | assumption)).trans ?_; first | assumption | exact x_up_s | (refine (x_up_n (by first | decide | assumption)).trans ?_; first | assumption | exact x_up_s)))))))))))))) rfl ?_
    refine x_icmp_ge 49 dX0_writtenEvents_9 (by decide) (fun _ => ?_) (fun hc => absurd (nI_le (by omega) (by omega)) hc)
    refine x_lload_n (i := 1) dX0_writtenEvents_49 rfl rfl ?_
    rw [List.drop_eq_nil_of_le (by omega)] at hq
    refine x_lret dX0_writtenEvents_50 rfl hq
  | succ n ih =>
    intro i acc hi hq
    refine x_iload_n (i := 3) dX0_writtenEvents_4 rfl rfl ?_
    refine x_aload_n (i := 0) dX0_writtenEvents_5 rfl rfl ?_
    refine x_get flX0_11 dX0_writtenEvents_6 (by first | decide | assumption) (by first | assumption | exact x_up_s | (refine (x_up_n (by first | decide | assumption)).trans ?_; first | assumption | exact x_up_s | (refine (x_up_n (by first | decide | assumption)).trans ?_; first | assumption | exact x_up_s | (refine (x_up_n (by first | decide | assumption)).trans ?_; first | assumption | exact x_up_s | (refine (x_up_n (by first | decide | assumption)).trans ?_; first | assumption | exact x_up_s | (refine (x_up_n (by first | decide | assumption)).trans ?_; first | assumption | exact x_up_s | (refine (x_up_n (by first | decide | assumption)).trans ?_; first | assumption | exact x_up_s | (refine (x_up_n (by first | decide | assumption)).trans ?_; first | assumption | exact x_up_s | (refine (x_up_n (by first | decide | assumption)).trans ?_; first | assumption | exact x_up_s | (refine (x_up_n (by first | decide | assumption)).trans ?_; first | assumption | exact x_up_s | (refine (x_up_n (by first | decide | assumption)).trans ?_; first | assumption | exact x_up_s | (refine (x_up_n (by first | decide | assumption)).trans ?_; first | assumption | exact x_up_s | (refine (x_up_n (by first | decide | assumption)).trans ?_; first | assumption | exact x_up_s | (refine (x_up_n (by first | decide | assumption)).trans ?_; first | assumption | exact x_up_s)))))))))))))) rfl ?_
    refine x_icmp_ge 49 dX0_writtenEvents_9 (by decide) (fun hc => absurd hc (nI_ge (by omega) (by omega))) (fun _ => ?_)
    refine x_aload_n (i := 0) dX0_writtenEvents_12 rfl rfl ?_
    refine x_get flX0_28 dX0_writtenEvents_13 (by first | decide | assumption) (by first | assumption | exact x_up_s | (refine (x_up_n (by first | decide | assumption)).trans ?_; first | assumption | exact x_up_s | (refine (x_up_n (by first | decide | assumption)).trans ?_; first | assumption | exact x_up_s | (refine (x_up_n (by first | decide | assumption)).trans ?_; first | assumption | exact x_up_s | (refine (x_up_n (by first | decide | assumption)).trans ?_; first | assumption | exact x_up_s | (refine (x_up_n (by first | decide | assumption)).trans ?_; first | assumption | exact x_up_s | (refine (x_up_n (by first | decide | assumption)).trans ?_; first | assumption | exact x_up_s | (refine (x_up_n (by first | decide | assumption)).trans ?_; first | assumption | exact x_up_s | (refine (x_up_n (by first | decide | assumption)).trans ?_; first | assumption | exact x_up_s | (refine (x_up_n (by first | decide | assumption)).trans ?_; first | assumption | exact x_up_s | (refine (x_up_n (by first | decide | assumption)).trans ?_; first | assumption | exact x_up_s | (refine (x_up_n (by first | decide | assumption)).trans ?_; first | assumption | exact x_up_s | (refine (x_up_n (by first | decide | assumption)).trans ?_; first | assumption | exact x_up_s | (refine (x_up_n (by first | decide | assumption)).trans ?_; first | assumption | exact x_up_s)))))))))))))) rfl ?_
    refine x_bipush (v := 6) dX0_writtenEvents_16 (by decide) ?_
    refine x_iload_n (i := 3) dX0_writtenEvents_18 rfl rfl ?_
    refine x_imul dX0_writtenEvents_19 ?_
    refine x_topi (nl_mul 6 i) ?_
    refine x_lushr dX0_writtenEvents_20 ?_
    refine x_ldc2 cnX0_48 dX0_writtenEvents_21 ?_
    refine x_land dX0_writtenEvents_24 ?_
    refine x_topl (y := lN (bW b / 2 ^ (6 * i) % 2 ^ 6)) ?_ ?_
    · rw [q_shr (by omega) (by omega)]
      exact q_mask (k := 6) (Nat.lt_of_le_of_lt (Nat.div_le_self _ _) (by omega)) (by decide)
    rw [bW_at hok]
    refine x_l2i dX0_writtenEvents_25 ?_
    refine x_topi (lN_toI _) ?_
    cases hb : b[i]? with
    | none =>
      refine x_iconst (v := 1) dX0_writtenEvents_26 (by decide) ?_
      refine x_isub dX0_writtenEvents_27 ?_
      refine x_istore dX0_writtenEvents_28 (by decide) ?_
      refine x_iload dX0_writtenEvents_30 rfl ?_
      refine x_iconst (v := (-1)) dX0_writtenEvents_32 (by decide) ?_
      refine x_icmp_eq 43 dX0_writtenEvents_33 (by decide) (fun _ => ?_) (fun hc => absurd (rfl) hc)
      first | refine x_incN dX0_writtenEvents_43 rfl (by decide) ?_ | refine x_iinc dX0_writtenEvents_43 rfl rfl (by decide) ?_
      refine x_goto 4 dX0_writtenEvents_46 (by decide) ?_
      rw [List.drop_eq_nil_of_le (by have := List.getElem?_eq_none_iff.mp hb; omega)] at hq
      exact x_wk (ih (i + 1) acc (by omega) (by rw [List.drop_eq_nil_of_le (by have := List.getElem?_eq_none_iff.mp hb; omega)]; exact hq)) ⟨rfl, rfl, rfl, trivial⟩
    | some q =>
      have hq8 := (hok.2.2.2 q (List.mem_of_getElem? hb)).2
      have hdr : b.drop i = q :: b.drop (i + 1) := by
        rw [List.drop_eq_getElem_cons (List.getElem?_eq_some_iff.mp hb).1, (List.getElem?_eq_some_iff.mp hb).2]
      rw [hdr, wevA] at hq
      by_cases h0 : q.2 = 0
      · rw [if_pos h0] at hq
        simp only [h0]
        refine x_iconst (v := 1) dX0_writtenEvents_26 (by decide) ?_
        refine x_isub dX0_writtenEvents_27 ?_
        refine x_istore dX0_writtenEvents_28 (by decide) ?_
        refine x_iload dX0_writtenEvents_30 rfl ?_
        refine x_iconst (v := (-1)) dX0_writtenEvents_32 (by decide) ?_
        refine x_icmp_eq 43 dX0_writtenEvents_33 (by decide) (fun _ => ?_) (fun hc => absurd (rfl) hc)
        first | refine x_incN dX0_writtenEvents_43 rfl (by decide) ?_ | refine x_iinc dX0_writtenEvents_43 rfl rfl (by decide) ?_
        refine x_goto 4 dX0_writtenEvents_46 (by decide) ?_
        exact x_wk (ih (i + 1) _ (by omega) hq) ⟨rfl, rfl, rfl, trivial⟩
      · rw [if_neg h0] at hq
        obtain ⟨t, ht⟩ : ∃ t, q.2 = t + 1 := ⟨q.2 - 1, by omega⟩
        simp only [ht] at hq hq8 ⊢
        rw [Nat.add_sub_cancel] at hq
        refine x_iconst (v := 1) dX0_writtenEvents_26 (by decide) ?_
        refine x_isub dX0_writtenEvents_27 ?_
        refine x_topi (nI_s1 t) ?_
        refine x_istore dX0_writtenEvents_28 (by decide) ?_
        refine x_iload dX0_writtenEvents_30 rfl ?_
        refine x_iconst (v := (-1)) dX0_writtenEvents_32 (by decide) ?_
        refine x_icmp_eq 43 dX0_writtenEvents_33 (by decide) (fun hc => absurd hc (nI_neg1 (by omega))) (fun _ => ?_)
        refine x_lload_n (i := 1) dX0_writtenEvents_36 rfl rfl ?_
        refine x_lconst (v := 1) dX0_writtenEvents_37 (by decide) ?_
        refine x_iload dX0_writtenEvents_38 rfl ?_
        refine x_lshl dX0_writtenEvents_40 ?_
        refine x_lor dX0_writtenEvents_41 ?_
        refine x_topl (y := lN (acc ||| 2 ^ t)) (by rw [l_one_shl (by omega), l_or]) ?_
        refine x_lstore_n (i := 1) dX0_writtenEvents_42 rfl (by decide) ?_
        first | refine x_incN dX0_writtenEvents_43 rfl (by decide) ?_ | refine x_iinc dX0_writtenEvents_43 rfl rfl (by decide) ?_
        refine x_goto 4 dX0_writtenEvents_46 (by decide) ?_
        exact x_wk (ih (i + 1) _ (by omega) hq) ⟨rfl, rfl, rfl, trivial⟩
set_option maxRecDepth 100000 in
set_option maxHeartbeats 4000000 in
theorem cB_writtenEvents (d k : Nat) (hk : k < x_N) (h : x_H) {L w : Nat} {b : Bd} (hB : h k = x_bd L w b) (hok : okB L b) : x_Ct d mX0_writtenEvents [.ref k] h (fun r h' => r = some (.long (lN (wev b))) ∧ h' = h) := by
  refine x_enter pnX0_writtenEvents (Nat.le_of_ble_eq_true rfl) ?_
  refine x_lconst (v := 0) dX0_writtenEvents_0 (by decide) ?_
  refine x_lstore_n (i := 1) dX0_writtenEvents_1 rfl (by decide) ?_
  refine x_iconst (v := 0) dX0_writtenEvents_2 (by decide) ?_
  refine x_istore_n (i := 3) dX0_writtenEvents_3 rfl (by decide) ?_
  exact x_wk (cB_writtenEvents_loop d k hk h hB hok _ L 0 0 (by omega) ⟨rfl, rfl⟩) ⟨rfl, rfl, rfl, trivial⟩
/-- boys cross until the name is gone -/
def pout (w L nm : Nat) : Nat → Bd → Nat × Bd
  | 0, b => (0, b)
  | f + 1, b => if bhas nm b then ((pout w L nm f (bw w L (8, 0) b)).1 + 1, (pout w L nm f (bw w L (8, 0) b)).2) else (0, b)
theorem okB_pout {w L nm : Nat} : ∀ (f : Nat) (b : Bd), okB L b → okB L (pout w L nm f b).2 ∧ (pout w L nm f b).1 ≤ f
  | 0, b, h => ⟨h, Nat.le_refl _⟩
  | f + 1, b, h => by
    unfold pout
    split
    · have := okB_pout f (bw w L (8, 0) b) (okB_bw h (by decide) (by decide)) (w := w) (nm := nm)
      exact ⟨this.1, Nat.succ_le_succ this.2⟩
    · exact ⟨h, Nat.zero_le _⟩
set_option maxRecDepth 100000 in
set_option maxHeartbeats 4000000 in
theorem cB_pushOut_loop (d k : Nat) (hk : k < x_N) {L w : Nat} (hw : w ≤ 2) (nm : Nat) (hnm : nm ≤ 8) (Q : Option Value → x_H → Prop) :
    ∀ (f i : Nat) (b : Bd) (h : x_H), i + f = L → okB L b → h k = x_bd L w b → (Q (some (.int (nI (i + (pout w L nm f b).1)))) (x_up h k (x_bd L w (pout w L nm f b).2))) →
      x_V (d + 3) mX0_pushOut 2 (x_ls [some (.ref k), some (.int (nI nm)), some (.int (nI i))]) [] h Q := by
  intro f
  induction f with
  | zero =>
    intro i b h hi hok hB hq
    have hL9 := hok.2.1
    refine x_iload_n (i := 2) dX0_pushOut_2 rfl rfl ?_
    refine x_aload_n (i := 0) dX0_pushOut_3 rfl rfl ?_
    refine x_get flX0_11 dX0_pushOut_4 (by first | decide | assumption) (by first | assumption | exact x_up_s | (refine (x_up_n (by first | decide | assumption)).trans ?_; first | assumption | exact x_up_s | (refine (x_up_n (by first | decide | assumption)).trans ?_; first | assumption | exact x_up_s | (refine (x_up_n (by first | decide | assumption)).trans ?_; first | assumption | exact x_up_s | (refine (x_up_n (by first | decide | assumption)).trans ?_; first | assumption | exact x_up_s | (refine (x_up_n (by first | decide | assumption)).trans ?_; first | assumption | exact x_up_s | (refine (x_up_n (by first | decide | assumption)).trans ?_; first | assumption | exact x_up_s | (refine (x_up_n (by first | decide | assumption)).trans ?_; first | assumption | exact x_up_s | (refine (x_up_n (by first | decide | assumption)).trans ?_; first | assumption | exact x_up_s | (refine (x_up_n (by first | decide | assumption)).trans ?_; first | assumption | exact x_up_s | (refine (x_up_n (by first | decide | assumption)).trans ?_; first | assumption | exact x_up_s | (refine (x_up_n (by first | decide | assumption)).trans ?_; first | assumption | exact x_up_s | (refine (x_up_n (by first | decide | assumption)).trans ?_; first | assumption | exact x_up_s | (refine (x_up_n (by first | decide | assumption)).trans ?_; first | assumption | exact x_up_s)))))))))))))) rfl ?_
    refine x_icmp_ge 31 dX0_pushOut_7 (by decide) (fun _ => ?_) (fun hc => absurd (nI_le (by omega) (by omega)) hc)
    refine x_iload_n (i := 2) dX0_pushOut_31 rfl rfl ?_
    rw [pout, x_up_eta hB] at hq
    refine x_iret dX0_pushOut_32 rfl hq
  | succ f ih =>
    intro i b h hi hok hB hq
    have hL9 := hok.2.1
    refine x_iload_n (i := 2) dX0_pushOut_2 rfl rfl ?_
    refine x_aload_n (i := 0) dX0_pushOut_3 rfl rfl ?_
    refine x_get flX0_11 dX0_pushOut_4 (by first | decide | assumption) (by first | assumption | exact x_up_s | (refine (x_up_n (by first | decide | assumption)).trans ?_; first | assumption | exact x_up_s | (refine (x_up_n (by first | decide | assumption)).trans ?_; first | assumption | exact x_up_s | (refine (x_up_n (by first | decide | assumption)).trans ?_; first | assumption | exact x_up_s | (refine (x_up_n (by first | decide | assumption)).trans ?_; first | assumption | exact x_up_s | (refine (x_up_n (by first | decide | assumption)).trans ?_; first | assumption | exact x_up_s | (refine (x_up_n (by first | decide | assumption)).trans ?_; first | assumption | exact x_up_s | (refine (x_up_n (by first | decide | assumption)).trans ?_; first | assumption | exact x_up_s | (refine (x_up_n (by first | decide | assumption)).trans ?_; first | assumption | exact x_up_s | (refine (x_up_n (by first | decide | assumption)).trans ?_; first | assumption | exact x_up_s | (refine (x_up_n (by first | decide | assumption)).trans ?_; first | assumption | exact x_up_s | (refine (x_up_n (by first | decide | assumption)).trans ?_; first | assumption | exact x_up_s | (refine (x_up_n (by first | decide | assumption)).trans ?_; first | assumption | exact x_up_s | (refine (x_up_n (by first | decide | assumption)).trans ?_; first | assumption | exact x_up_s)))))))))))))) rfl ?_
    refine x_icmp_ge 31 dX0_pushOut_7 (by decide) (fun hc => absurd hc (nI_ge (by omega) (by omega))) (fun _ => ?_)
    refine x_aload_n (i := 0) dX0_pushOut_10 rfl rfl ?_
    refine x_iload_n (i := 1) dX0_pushOut_11 rfl rfl ?_
    refine x_invV clX0_50 dX0_pushOut_12 (cB_holds d k hk h hB hok nm hnm) (by omega) rfl (by first | decide | assumption) (by first | assumption | exact x_up_s | (refine (x_up_n (by first | decide | assumption)).trans ?_; first | assumption | exact x_up_s | (refine (x_up_n (by first | decide | assumption)).trans ?_; first | assumption | exact x_up_s | (refine (x_up_n (by first | decide | assumption)).trans ?_; first | assumption | exact x_up_s | (refine (x_up_n (by first | decide | assumption)).trans ?_; first | assumption | exact x_up_s | (refine (x_up_n (by first | decide | assumption)).trans ?_; first | assumption | exact x_up_s | (refine (x_up_n (by first | decide | assumption)).trans ?_; first | assumption | exact x_up_s | (refine (x_up_n (by first | decide | assumption)).trans ?_; first | assumption | exact x_up_s | (refine (x_up_n (by first | decide | assumption)).trans ?_; first | assumption | exact x_up_s | (refine (x_up_n (by first | decide | assumption)).trans ?_; first | assumption | exact x_up_s | (refine (x_up_n (by first | decide | assumption)).trans ?_; first | assumption | exact x_up_s | (refine (x_up_n (by first | decide | assumption)).trans ?_; first | assumption | exact x_up_s | (refine (x_up_n (by first | decide | assumption)).trans ?_; first | assumption | exact x_up_s | (refine (x_up_n (by first | decide | assumption)).trans ?_; first | assumption | exact x_up_s)))))))))))))) rfl (Nat.le_of_ble_eq_true rfl) ?_
    rintro r h' ⟨rfl, rfl⟩
    unfold pout at hq
    cases hb : bhas nm b with
    | false =>
      rw [hb] at hq
      simp only [Bool.false_eq_true, if_false, Nat.add_zero] at hq
      rw [x_up_eta hB] at hq
      refine x_if_eq 31 dX0_pushOut_15 (by decide) (fun _ => ?_) (fun hc => absurd (rfl) hc)
      refine x_iload_n (i := 2) dX0_pushOut_31 rfl rfl ?_
      refine x_iret dX0_pushOut_32 rfl hq
    | true =>
      rw [hb] at hq
      simp only [if_true] at hq
      refine x_if_eq 31 dX0_pushOut_15 (by decide) (fun hc => absurd hc (by decide)) (fun _ => ?_)
      refine x_aload_n (i := 0) dX0_pushOut_18 rfl rfl ?_
      refine x_bipush (v := 8) dX0_pushOut_19 (by decide) ?_
      refine x_iconst (v := (-1)) dX0_pushOut_21 (by decide) ?_
      refine x_invV clX0_53 dX0_pushOut_22 (cB_write d k hk h' hB hok hw 8 (by decide) (-1) 0 (by decide) (by decide)) (by omega) rfl (by first | decide | assumption) (by first | assumption | exact x_up_s | (refine (x_up_n (by first | decide | assumption)).trans ?_; first | assumption | exact x_up_s | (refine (x_up_n (by first | decide | assumption)).trans ?_; first | assumption | exact x_up_s | (refine (x_up_n (by first | decide | assumption)).trans ?_; first | assumption | exact x_up_s | (refine (x_up_n (by first | decide | assumption)).trans ?_; first | assumption | exact x_up_s | (refine (x_up_n (by first | decide | assumption)).trans ?_; first | assumption | exact x_up_s | (refine (x_up_n (by first | decide | assumption)).trans ?_; first | assumption | exact x_up_s | (refine (x_up_n (by first | decide | assumption)).trans ?_; first | assumption | exact x_up_s | (refine (x_up_n (by first | decide | assumption)).trans ?_; first | assumption | exact x_up_s | (refine (x_up_n (by first | decide | assumption)).trans ?_; first | assumption | exact x_up_s | (refine (x_up_n (by first | decide | assumption)).trans ?_; first | assumption | exact x_up_s | (refine (x_up_n (by first | decide | assumption)).trans ?_; first | assumption | exact x_up_s | (refine (x_up_n (by first | decide | assumption)).trans ?_; first | assumption | exact x_up_s | (refine (x_up_n (by first | decide | assumption)).trans ?_; first | assumption | exact x_up_s)))))))))))))) rfl (Nat.le_of_ble_eq_true rfl) ?_
      rintro r h'' ⟨rfl, rfl⟩
      first | refine x_incN dX0_pushOut_25 rfl (by decide) ?_ | refine x_iinc dX0_pushOut_25 rfl rfl (by decide) ?_
      refine x_goto 2 dX0_pushOut_28 (by decide) ?_
      refine x_wk (ih (i + 1) _ _ (by omega) (okB_bw hok (by decide) (by decide)) x_up_s ?_) ⟨rfl, rfl, rfl, trivial⟩
      rw [x_up_up, show i + 1 + (pout w L nm f (bw w L (8, 0) b)).1 = i + ((pout w L nm f (bw w L (8, 0) b)).1 + 1) by omega]
      exact hq
set_option maxRecDepth 100000 in
set_option maxHeartbeats 4000000 in
theorem cB_pushOut (d k : Nat) (hk : k < x_N) (h : x_H) {L w : Nat} {b : Bd} (hB : h k = x_bd L w b) (hok : okB L b) (hw : w ≤ 2) (nm : Nat) (hnm : nm ≤ 8) : x_Ct (d + 3) mX0_pushOut [.ref k, .int (nI nm)] h (fun r h' => r = some (.int (nI (pout w L nm L b).1)) ∧ h' = x_up h k (x_bd L w (pout w L nm L b).2)) := by
  refine x_enter pnX0_pushOut (Nat.le_of_ble_eq_true rfl) ?_
  refine x_iconst (v := 0) dX0_pushOut_0 (by decide) ?_
  refine x_istore_n (i := 2) dX0_pushOut_1 rfl (by decide) ?_
  exact x_wk (cB_pushOut_loop d k hk hw nm hnm _ L 0 b h (by omega) hok hB ⟨by rw [Nat.zero_add], rfl⟩) ⟨rfl, rfl, rfl, trivial⟩
