/-! the search: places 10 to 19 -/
abbrev x_sr (fr wy ak ls : Int32) : x_E := .inr (2, [.ref 11, .int fr, .int wy, .ref 12, .ref 13, .ref 14, .int ak, .ref 15, .ref 16, .ref 17, .ref 18, .int ls, .ref 19])
theorem lkX2_122 : Cond.methodLink RX2 122 yJ9_max_7cf53 ∈ x_base := x_in 474 (by decide +kernel) rfl
def ixOk (ak : Nat) (i : Int32) : Bool := decide (0 ≤ i.toInt ∧ i.toInt < ak)
theorem ixOk_nI {ak j : Nat} (hj : j < 2 ^ 31) : ixOk ak (nI j) = decide (j < ak) := by
  unfold ixOk
  rw [nI_toInt hj]
  by_cases h : j < ak
  · simp only [h, decide_true]; exact decide_eq_true ⟨by omega, by omega⟩
  · simp only [h, decide_false]; exact decide_eq_false (by omega)
set_option maxRecDepth 100000 in
set_option maxHeartbeats 4000000 in
theorem cR_ix (d : Nat) (h : x_H) {fr wy ls : Int32} {ak : Nat} (hR : h 10 = x_sr fr wy (nI ak) ls) (hak : ak ≤ 4) (i : Int32) : x_Ct d mX2_isAskedIndex [.ref 10, .int i] h (fun r h' => r = some (.int (b2I (ixOk ak i))) ∧ h' = h) := by
  refine x_enter pnX2_isAskedIndex (Nat.le_of_ble_eq_true rfl) ?_
  refine x_iload_n (i := 1) dX2_isAskedIndex_0 rfl rfl ?_
  refine x_if_lt 21 dX2_isAskedIndex_1 (by decide) (fun hc => ?_) (fun hc => ?_)
  · have : ixOk ak i = false := decide_eq_false (fun q => by have := Int32.lt_iff_toInt_lt.mp hc; have : (0 : Int32).toInt = 0 := rfl; omega)
    refine x_iconst (v := 0) dX2_isAskedIndex_21 (by decide) ?_
    refine x_zret dX2_isAskedIndex_22 rfl (by first | rfl | decide | assumption) ⟨by rw [this]; rfl, rfl⟩
  · obtain ⟨j, hj, rfl⟩ := nI_of hc
    rw [ixOk_nI hj]
    refine x_iload_n (i := 1) dX2_isAskedIndex_4 rfl rfl ?_
    refine x_aload_n (i := 0) dX2_isAskedIndex_5 rfl rfl ?_
    refine x_get flX2_36 dX2_isAskedIndex_6 (by first | decide | assumption) (by first | assumption | exact x_up_s | (refine (x_up_n (by first | decide | assumption)).trans ?_; first | assumption | exact x_up_s | (refine (x_up_n (by first | decide | assumption)).trans ?_; first | assumption | exact x_up_s | (refine (x_up_n (by first | decide | assumption)).trans ?_; first | assumption | exact x_up_s | (refine (x_up_n (by first | decide | assumption)).trans ?_; first | assumption | exact x_up_s | (refine (x_up_n (by first | decide | assumption)).trans ?_; first | assumption | exact x_up_s | (refine (x_up_n (by first | decide | assumption)).trans ?_; first | assumption | exact x_up_s | (refine (x_up_n (by first | decide | assumption)).trans ?_; first | assumption | exact x_up_s)))))))) rfl ?_
    refine x_icmp_ge 21 dX2_isAskedIndex_9 (by decide) (fun hd => ?_) (fun hd => ?_)
    · have : ¬ j < ak := fun q => nI_ge q (by omega) hd
      refine x_iconst (v := 0) dX2_isAskedIndex_21 (by decide) ?_
      refine x_zret dX2_isAskedIndex_22 rfl (by first | rfl | decide | assumption) ⟨by rw [decide_eq_false this]; rfl, rfl⟩
    · have hjn : j < ak := by
        rcases Nat.lt_or_ge j ak with q | q
        · exact q
        · exact absurd (nI_le q hj) hd
      refine x_iload_n (i := 1) dX2_isAskedIndex_12 rfl rfl ?_
      refine x_iconst (v := 4) dX2_isAskedIndex_13 (by decide) ?_
      refine x_icmp_ge 21 dX2_isAskedIndex_14 (by decide) (fun hc => absurd hc (nI_ge (b := 4) (by omega) (by decide))) (fun _ => ?_)
      refine x_iconst (v := 1) dX2_isAskedIndex_17 (by decide) ?_
      refine x_goto 22 dX2_isAskedIndex_18 (by decide) ?_
      refine x_zret dX2_isAskedIndex_22 rfl (by first | rfl | decide | assumption) ⟨by rw [decide_eq_true hjn]; rfl, rfl⟩
theorem ixOk_t {ak : Nat} {i : Int32} (h : ixOk ak i = true) (hak : ak ≤ 4) : ∃ j, j < ak ∧ i = nI j := by
  have h := of_decide_eq_true h
  have h0 : ¬ i < 0 := fun q => by have := Int32.lt_iff_toInt_lt.mp q; have : (0 : Int32).toInt = 0 := rfl; omega
  obtain ⟨j, hj, rfl⟩ := nI_of h0
  rw [nI_toInt hj] at h
  exact ⟨j, by omega, rfl⟩
set_option maxRecDepth 100000 in
set_option maxHeartbeats 4000000 in
theorem cR_first (d : Nat) (h : x_H) {fr ls : Int32} {wy ak : Nat} {Fi : Nat → Nat} (hR : h 10 = x_sr fr (nI wy) (nI ak) ls) (hF : h 12 = x_na 4 Fi) (hak : ak ≤ 4) (hwy : wy < 2 ^ 31) (i : Int32) : x_Ct (d + 1) mX2_firstWriting [.ref 10, .int i] h (fun r h' => r = some (.int (if 0 < wy ∧ ixOk ak i = true then nI (Fi i.toInt.toNat) else -6)) ∧ h' = h) := by
  refine x_enter pnX2_firstWriting (Nat.le_of_ble_eq_true rfl) ?_
  refine x_aload_n (i := 0) dX2_firstWriting_0 rfl rfl ?_
  refine x_get flX2_22 dX2_firstWriting_1 (by first | decide | assumption) (by first | assumption | exact x_up_s | (refine (x_up_n (by first | decide | assumption)).trans ?_; first | assumption | exact x_up_s | (refine (x_up_n (by first | decide | assumption)).trans ?_; first | assumption | exact x_up_s | (refine (x_up_n (by first | decide | assumption)).trans ?_; first | assumption | exact x_up_s | (refine (x_up_n (by first | decide | assumption)).trans ?_; first | assumption | exact x_up_s | (refine (x_up_n (by first | decide | assumption)).trans ?_; first | assumption | exact x_up_s | (refine (x_up_n (by first | decide | assumption)).trans ?_; first | assumption | exact x_up_s | (refine (x_up_n (by first | decide | assumption)).trans ?_; first | assumption | exact x_up_s)))))))) rfl ?_
  refine x_if_le 24 dX2_firstWriting_4 (by decide) (fun hc => ?_) (fun hc => ?_)
  · have : ¬ 0 < wy := by have := (nI_leI (b := 0) hwy (by decide)).mp hc; omega
    refine x_bipush (v := (-6)) dX2_firstWriting_24 (by decide) ?_
    refine x_iret dX2_firstWriting_26 rfl ⟨by rw [if_neg (fun q => this q.1)], rfl⟩
  · have hw0 : 0 < wy := by
      rcases Nat.lt_or_ge 0 wy with q | q
      · exact q
      · exact absurd (nI_le (b := 0) q (by decide)) hc
    refine x_aload_n (i := 0) dX2_firstWriting_7 rfl rfl ?_
    refine x_iload_n (i := 1) dX2_firstWriting_8 rfl rfl ?_
    refine x_invV clX2_97 dX2_firstWriting_9 (cR_ix d h hR hak i) (by omega) rfl (by first | decide | assumption) (by first | assumption | exact x_up_s | (refine (x_up_n (by first | decide | assumption)).trans ?_; first | assumption | exact x_up_s | (refine (x_up_n (by first | decide | assumption)).trans ?_; first | assumption | exact x_up_s | (refine (x_up_n (by first | decide | assumption)).trans ?_; first | assumption | exact x_up_s | (refine (x_up_n (by first | decide | assumption)).trans ?_; first | assumption | exact x_up_s | (refine (x_up_n (by first | decide | assumption)).trans ?_; first | assumption | exact x_up_s | (refine (x_up_n (by first | decide | assumption)).trans ?_; first | assumption | exact x_up_s | (refine (x_up_n (by first | decide | assumption)).trans ?_; first | assumption | exact x_up_s)))))))) rfl (Nat.le_of_ble_eq_true rfl) ?_
    rintro r h' ⟨rfl, rfl⟩
    cases hi : ixOk ak i with
    | false =>
      refine x_if_eq 24 dX2_firstWriting_12 (by decide) (fun _ => ?_) (fun hc => absurd (rfl) hc)
      refine x_bipush (v := (-6)) dX2_firstWriting_24 (by decide) ?_
      refine x_iret dX2_firstWriting_26 rfl ⟨by rw [if_neg (fun q => by exact absurd q.2 (by decide))], rfl⟩
    | true =>
      obtain ⟨j, hj, rfl⟩ := ixOk_t hi hak
      refine x_if_eq 24 dX2_firstWriting_12 (by decide) (fun hc => absurd hc (by decide)) (fun _ => ?_)
      refine x_aload_n (i := 0) dX2_firstWriting_15 rfl rfl ?_
      refine x_get flX2_26 dX2_firstWriting_16 (by first | decide | assumption) (by first | assumption | exact x_up_s | (refine (x_up_n (by first | decide | assumption)).trans ?_; first | assumption | exact x_up_s | (refine (x_up_n (by first | decide | assumption)).trans ?_; first | assumption | exact x_up_s | (refine (x_up_n (by first | decide | assumption)).trans ?_; first | assumption | exact x_up_s | (refine (x_up_n (by first | decide | assumption)).trans ?_; first | assumption | exact x_up_s | (refine (x_up_n (by first | decide | assumption)).trans ?_; first | assumption | exact x_up_s | (refine (x_up_n (by first | decide | assumption)).trans ?_; first | assumption | exact x_up_s | (refine (x_up_n (by first | decide | assumption)).trans ?_; first | assumption | exact x_up_s)))))))) rfl ?_
      refine x_iload_n (i := 1) dX2_firstWriting_19 rfl rfl ?_
      refine x_iald j dX2_firstWriting_20 (by first | decide | assumption) (by first | assumption | exact x_up_s | (refine (x_up_n (by first | decide | assumption)).trans ?_; first | assumption | exact x_up_s | (refine (x_up_n (by first | decide | assumption)).trans ?_; first | assumption | exact x_up_s | (refine (x_up_n (by first | decide | assumption)).trans ?_; first | assumption | exact x_up_s | (refine (x_up_n (by first | decide | assumption)).trans ?_; first | assumption | exact x_up_s | (refine (x_up_n (by first | decide | assumption)).trans ?_; first | assumption | exact x_up_s | (refine (x_up_n (by first | decide | assumption)).trans ?_; first | assumption | exact x_up_s | (refine (x_up_n (by first | decide | assumption)).trans ?_; first | assumption | exact x_up_s)))))))) rfl (by omega) (by decide) ?_
      refine x_goto 26 dX2_firstWriting_21 (by decide) ?_
      refine x_iret dX2_firstWriting_26 rfl ⟨by rw [if_pos ⟨hw0, rfl⟩, nI_toInt (by omega)]; rfl, rfl⟩
set_option maxRecDepth 100000 in
set_option maxHeartbeats 4000000 in
theorem cR_cand (d : Nat) (h : x_H) {fr wy ls : Int32} {ak : Nat} {Ca : Nat → Nat} (hR : h 10 = x_sr fr wy (nI ak) ls) (hF : h 13 = x_na 4 Ca) (hak : ak ≤ 4) (i : Int32) : x_Ct (d + 1) mX2_candidatesFor [.ref 10, .int i] h (fun r h' => r = some (.int (if ixOk ak i = true then nI (Ca i.toInt.toNat) else -6)) ∧ h' = h) := by
  refine x_enter pnX2_candidatesFor (Nat.le_of_ble_eq_true rfl) ?_
  refine x_aload_n (i := 0) dX2_candidatesFor_0 rfl rfl ?_
  refine x_iload_n (i := 1) dX2_candidatesFor_1 rfl rfl ?_
  refine x_invV clX2_97 dX2_candidatesFor_2 (cR_ix d h hR hak i) (by omega) rfl (by first | decide | assumption) (by first | assumption | exact x_up_s | (refine (x_up_n (by first | decide | assumption)).trans ?_; first | assumption | exact x_up_s | (refine (x_up_n (by first | decide | assumption)).trans ?_; first | assumption | exact x_up_s | (refine (x_up_n (by first | decide | assumption)).trans ?_; first | assumption | exact x_up_s | (refine (x_up_n (by first | decide | assumption)).trans ?_; first | assumption | exact x_up_s | (refine (x_up_n (by first | decide | assumption)).trans ?_; first | assumption | exact x_up_s | (refine (x_up_n (by first | decide | assumption)).trans ?_; first | assumption | exact x_up_s | (refine (x_up_n (by first | decide | assumption)).trans ?_; first | assumption | exact x_up_s)))))))) rfl (Nat.le_of_ble_eq_true rfl) ?_
  rintro r h' ⟨rfl, rfl⟩
  cases hi : ixOk ak i with
  | false =>
    refine x_if_eq 17 dX2_candidatesFor_5 (by decide) (fun _ => ?_) (fun hc => absurd (rfl) hc)
    refine x_bipush (v := (-6)) dX2_candidatesFor_17 (by decide) ?_
    refine x_iret dX2_candidatesFor_19 rfl ⟨by rw [if_neg (by decide)], rfl⟩
  | true =>
    obtain ⟨j, hj, rfl⟩ := ixOk_t hi hak
    refine x_if_eq 17 dX2_candidatesFor_5 (by decide) (fun hc => absurd hc (by decide)) (fun _ => ?_)
    refine x_aload_n (i := 0) dX2_candidatesFor_8 rfl rfl ?_
    refine x_get flX2_30 dX2_candidatesFor_9 (by first | decide | assumption) (by first | assumption | exact x_up_s | (refine (x_up_n (by first | decide | assumption)).trans ?_; first | assumption | exact x_up_s | (refine (x_up_n (by first | decide | assumption)).trans ?_; first | assumption | exact x_up_s | (refine (x_up_n (by first | decide | assumption)).trans ?_; first | assumption | exact x_up_s | (refine (x_up_n (by first | decide | assumption)).trans ?_; first | assumption | exact x_up_s | (refine (x_up_n (by first | decide | assumption)).trans ?_; first | assumption | exact x_up_s | (refine (x_up_n (by first | decide | assumption)).trans ?_; first | assumption | exact x_up_s | (refine (x_up_n (by first | decide | assumption)).trans ?_; first | assumption | exact x_up_s)))))))) rfl ?_
    refine x_iload_n (i := 1) dX2_candidatesFor_12 rfl rfl ?_
    refine x_iald j dX2_candidatesFor_13 (by first | decide | assumption) (by first | assumption | exact x_up_s | (refine (x_up_n (by first | decide | assumption)).trans ?_; first | assumption | exact x_up_s | (refine (x_up_n (by first | decide | assumption)).trans ?_; first | assumption | exact x_up_s | (refine (x_up_n (by first | decide | assumption)).trans ?_; first | assumption | exact x_up_s | (refine (x_up_n (by first | decide | assumption)).trans ?_; first | assumption | exact x_up_s | (refine (x_up_n (by first | decide | assumption)).trans ?_; first | assumption | exact x_up_s | (refine (x_up_n (by first | decide | assumption)).trans ?_; first | assumption | exact x_up_s | (refine (x_up_n (by first | decide | assumption)).trans ?_; first | assumption | exact x_up_s)))))))) rfl (by omega) (by decide) ?_
    refine x_goto 19 dX2_candidatesFor_14 (by decide) ?_
    refine x_iret dX2_candidatesFor_19 rfl ⟨by rw [if_pos rfl, nI_toInt (by omega)]; rfl, rfl⟩
set_option maxRecDepth 100000 in
set_option maxHeartbeats 4000000 in
theorem cR_with (d : Nat) (h : x_H) {fr wy ak ls : Int32} {Cr : Nat → Nat} (hR : h 10 = x_sr fr wy ak ls) (hF : h 14 = x_na 8 Cr) (p : Nat) (hp : p < 8) : x_Ct (d + 1) mX2_waysWith [.ref 10, .int (nI p)] h (fun r h' => r = some (.int (nI (Cr p))) ∧ h' = h) := by
  refine x_enter pnX2_waysWith (Nat.le_of_ble_eq_true rfl) ?_
  refine x_iload_n (i := 1) dX2_waysWith_0 rfl rfl ?_
  refine x_invS clX2_100 dX2_waysWith_1 (c_isPerson d h _) (by omega) rfl rfl (Nat.le_of_ble_eq_true rfl) ?_
  rintro r h' ⟨rfl, rfl⟩
  refine x_topi (isP_nI (by omega)) ?_
  rw [if_pos hp]
  refine x_if_eq 16 dX2_waysWith_4 (by decide) (fun hc => absurd hc (by decide)) (fun _ => ?_)
  refine x_aload_n (i := 0) dX2_waysWith_7 rfl rfl ?_
  refine x_get flX2_33 dX2_waysWith_8 (by first | decide | assumption) (by first | assumption | exact x_up_s | (refine (x_up_n (by first | decide | assumption)).trans ?_; first | assumption | exact x_up_s | (refine (x_up_n (by first | decide | assumption)).trans ?_; first | assumption | exact x_up_s | (refine (x_up_n (by first | decide | assumption)).trans ?_; first | assumption | exact x_up_s | (refine (x_up_n (by first | decide | assumption)).trans ?_; first | assumption | exact x_up_s | (refine (x_up_n (by first | decide | assumption)).trans ?_; first | assumption | exact x_up_s | (refine (x_up_n (by first | decide | assumption)).trans ?_; first | assumption | exact x_up_s | (refine (x_up_n (by first | decide | assumption)).trans ?_; first | assumption | exact x_up_s)))))))) rfl ?_
  refine x_iload_n (i := 1) dX2_waysWith_11 rfl rfl ?_
  refine x_iald p dX2_waysWith_12 (by first | decide | assumption) (by first | assumption | exact x_up_s | (refine (x_up_n (by first | decide | assumption)).trans ?_; first | assumption | exact x_up_s | (refine (x_up_n (by first | decide | assumption)).trans ?_; first | assumption | exact x_up_s | (refine (x_up_n (by first | decide | assumption)).trans ?_; first | assumption | exact x_up_s | (refine (x_up_n (by first | decide | assumption)).trans ?_; first | assumption | exact x_up_s | (refine (x_up_n (by first | decide | assumption)).trans ?_; first | assumption | exact x_up_s | (refine (x_up_n (by first | decide | assumption)).trans ?_; first | assumption | exact x_up_s | (refine (x_up_n (by first | decide | assumption)).trans ?_; first | assumption | exact x_up_s)))))))) rfl (by omega) (by decide) ?_
  refine x_goto 17 dX2_waysWith_13 (by decide) ?_
  refine x_iret dX2_waysWith_17 rfl ⟨rfl, rfl⟩
def aqA (cs : Nat → Nat) : Nat → Nat → Nat → (Nat → Nat) → Nat × (Nat → Nat)
  | 0, _, k, f => (k, f)
  | r + 1, i, k, f => if cs i = 63 ∧ k < 4 then aqA cs r (i + 1) (k + 1) (csU f k i) else aqA cs r (i + 1) k f
theorem aqA_le (cs : Nat → Nat) : ∀ (r i k : Nat) (f : Nat → Nat), k ≤ 4 → (aqA cs r i k f).1 ≤ 4
  | 0, _, _, _, h => h
  | r + 1, i, k, f, h => by
    unfold aqA
    split
    · exact aqA_le cs r _ _ _ (by omega)
    · exact aqA_le cs r _ _ _ h
set_option maxRecDepth 100000 in
set_option maxHeartbeats 4000000 in
theorem cR_find_loop (d : Nat) (h : x_H) {n : Nat} {cs : Nat → Nat} (hD : h 1 = x_dy n) (hG : h 2 = x_sg cs) (hok : okD n cs) {fr wy ls : Int32} (Q : Option Value → x_H → Prop) :
    ∀ (r i k : Nat) (f : Nat → Nat), i + r = n → k ≤ 4 → Q none (x_up (x_up h 15 (x_na 4 (aqA cs r i k f).2)) 10 (x_sr fr wy (nI (aqA cs r i k f).1) ls)) →
      x_V (d + 2) mX2_findAsked 7 (x_ls [some (.ref 10), some (.ref 1), some (.int (nI i))]) [] (x_up (x_up h 15 (x_na 4 f)) 10 (x_sr fr wy (nI k) ls)) Q := by
  have hn := hok.1
  intro r
  induction r with
  | zero =>
    intro i k f hi hk hq
    refine x_iload_n (i := 2) dX2_findAsked_7 rfl rfl ?_
    refine x_aload_n (i := 1) dX2_findAsked_8 rfl rfl ?_
    refine x_get flX2_103 dX2_findAsked_9 (by first | decide | assumption) (by first | assumption | exact x_up_s | (refine (x_up_n (by first | decide | assumption)).trans ?_; first | assumption | exact x_up_s | (refine (x_up_n (by first | decide | assumption)).trans ?_; first | assumption | exact x_up_s | (refine (x_up_n (by first | decide | assumption)).trans ?_; first | assumption | exact x_up_s | (refine (x_up_n (by first | decide | assumption)).trans ?_; first | assumption | exact x_up_s | (refine (x_up_n (by first | decide | assumption)).trans ?_; first | assumption | exact x_up_s | (refine (x_up_n (by first | decide | assumption)).trans ?_; first | assumption | exact x_up_s | (refine (x_up_n (by first | decide | assumption)).trans ?_; first | assumption | exact x_up_s)))))))) rfl ?_
    refine x_icmp_ge 57 dX2_findAsked_12 (by decide) (fun _ => ?_) (fun hc => absurd (nI_le (by omega) (by omega)) hc)
    refine x_vret dX2_findAsked_57 rfl hq
  | succ r ih =>
    intro i k f hi hk hq
    have hcd : cd n cs (nI i) = cs i := cd_in (by omega) hn
    unfold aqA at hq
    refine x_iload_n (i := 2) dX2_findAsked_7 rfl rfl ?_
    refine x_aload_n (i := 1) dX2_findAsked_8 rfl rfl ?_
    refine x_get flX2_103 dX2_findAsked_9 (by first | decide | assumption) (by first | assumption | exact x_up_s | (refine (x_up_n (by first | decide | assumption)).trans ?_; first | assumption | exact x_up_s | (refine (x_up_n (by first | decide | assumption)).trans ?_; first | assumption | exact x_up_s | (refine (x_up_n (by first | decide | assumption)).trans ?_; first | assumption | exact x_up_s | (refine (x_up_n (by first | decide | assumption)).trans ?_; first | assumption | exact x_up_s | (refine (x_up_n (by first | decide | assumption)).trans ?_; first | assumption | exact x_up_s | (refine (x_up_n (by first | decide | assumption)).trans ?_; first | assumption | exact x_up_s | (refine (x_up_n (by first | decide | assumption)).trans ?_; first | assumption | exact x_up_s)))))))) rfl ?_
    refine x_icmp_ge 57 dX2_findAsked_12 (by decide) (fun hc => absurd hc (nI_ge (by omega) (by omega))) (fun _ => ?_)
    refine x_aload_n (i := 1) dX2_findAsked_15 rfl rfl ?_
    refine x_iload_n (i := 2) dX2_findAsked_16 rfl rfl ?_
    refine x_invV clX2_106 dX2_findAsked_17 (cD_isAsked d _ (by first | assumption | exact x_up_s | (refine (x_up_n (by first | decide | assumption)).trans ?_; first | assumption | exact x_up_s | (refine (x_up_n (by first | decide | assumption)).trans ?_; first | assumption | exact x_up_s | (refine (x_up_n (by first | decide | assumption)).trans ?_; first | assumption | exact x_up_s | (refine (x_up_n (by first | decide | assumption)).trans ?_; first | assumption | exact x_up_s | (refine (x_up_n (by first | decide | assumption)).trans ?_; first | assumption | exact x_up_s | (refine (x_up_n (by first | decide | assumption)).trans ?_; first | assumption | exact x_up_s | (refine (x_up_n (by first | decide | assumption)).trans ?_; first | assumption | exact x_up_s)))))))) (by first | assumption | exact x_up_s | (refine (x_up_n (by first | decide | assumption)).trans ?_; first | assumption | exact x_up_s | (refine (x_up_n (by first | decide | assumption)).trans ?_; first | assumption | exact x_up_s | (refine (x_up_n (by first | decide | assumption)).trans ?_; first | assumption | exact x_up_s | (refine (x_up_n (by first | decide | assumption)).trans ?_; first | assumption | exact x_up_s | (refine (x_up_n (by first | decide | assumption)).trans ?_; first | assumption | exact x_up_s | (refine (x_up_n (by first | decide | assumption)).trans ?_; first | assumption | exact x_up_s | (refine (x_up_n (by first | decide | assumption)).trans ?_; first | assumption | exact x_up_s)))))))) hok (nI i)) (by omega) rfl (by first | decide | assumption) (by first | assumption | exact x_up_s | (refine (x_up_n (by first | decide | assumption)).trans ?_; first | assumption | exact x_up_s | (refine (x_up_n (by first | decide | assumption)).trans ?_; first | assumption | exact x_up_s | (refine (x_up_n (by first | decide | assumption)).trans ?_; first | assumption | exact x_up_s | (refine (x_up_n (by first | decide | assumption)).trans ?_; first | assumption | exact x_up_s | (refine (x_up_n (by first | decide | assumption)).trans ?_; first | assumption | exact x_up_s | (refine (x_up_n (by first | decide | assumption)).trans ?_; first | assumption | exact x_up_s | (refine (x_up_n (by first | decide | assumption)).trans ?_; first | assumption | exact x_up_s)))))))) rfl (Nat.le_of_ble_eq_true rfl) ?_
    rintro r h' ⟨rfl, rfl⟩
    rw [hcd]
    by_cases h63 : cs i = 63
    · rw [show (cs i == 63) = true by rw [h63]; rfl]
      refine x_if_eq 51 dX2_findAsked_20 (by decide) (fun hc => absurd hc (by decide)) (fun _ => ?_)
      refine x_aload_n (i := 0) dX2_findAsked_23 rfl rfl ?_
      refine x_get flX2_36 dX2_findAsked_24 (by first | decide | assumption) (by first | assumption | exact x_up_s | (refine (x_up_n (by first | decide | assumption)).trans ?_; first | assumption | exact x_up_s | (refine (x_up_n (by first | decide | assumption)).trans ?_; first | assumption | exact x_up_s | (refine (x_up_n (by first | decide | assumption)).trans ?_; first | assumption | exact x_up_s | (refine (x_up_n (by first | decide | assumption)).trans ?_; first | assumption | exact x_up_s | (refine (x_up_n (by first | decide | assumption)).trans ?_; first | assumption | exact x_up_s | (refine (x_up_n (by first | decide | assumption)).trans ?_; first | assumption | exact x_up_s | (refine (x_up_n (by first | decide | assumption)).trans ?_; first | assumption | exact x_up_s)))))))) rfl ?_
      refine x_iconst (v := 4) dX2_findAsked_27 (by decide) ?_
      by_cases hk4 : k < 4
      · rw [if_pos ⟨h63, hk4⟩] at hq
        refine x_icmp_ge 51 dX2_findAsked_28 (by decide) (fun hc => absurd hc (nI_ge (b := 4) hk4 (by decide))) (fun _ => ?_)
        refine x_aload_n (i := 0) dX2_findAsked_31 rfl rfl ?_
        refine x_get flX2_39 dX2_findAsked_32 (by first | decide | assumption) (by first | assumption | exact x_up_s | (refine (x_up_n (by first | decide | assumption)).trans ?_; first | assumption | exact x_up_s | (refine (x_up_n (by first | decide | assumption)).trans ?_; first | assumption | exact x_up_s | (refine (x_up_n (by first | decide | assumption)).trans ?_; first | assumption | exact x_up_s | (refine (x_up_n (by first | decide | assumption)).trans ?_; first | assumption | exact x_up_s | (refine (x_up_n (by first | decide | assumption)).trans ?_; first | assumption | exact x_up_s | (refine (x_up_n (by first | decide | assumption)).trans ?_; first | assumption | exact x_up_s | (refine (x_up_n (by first | decide | assumption)).trans ?_; first | assumption | exact x_up_s)))))))) rfl ?_
        refine x_aload_n (i := 0) dX2_findAsked_35 rfl rfl ?_
        refine x_get flX2_36 dX2_findAsked_36 (by first | decide | assumption) (by first | assumption | exact x_up_s | (refine (x_up_n (by first | decide | assumption)).trans ?_; first | assumption | exact x_up_s | (refine (x_up_n (by first | decide | assumption)).trans ?_; first | assumption | exact x_up_s | (refine (x_up_n (by first | decide | assumption)).trans ?_; first | assumption | exact x_up_s | (refine (x_up_n (by first | decide | assumption)).trans ?_; first | assumption | exact x_up_s | (refine (x_up_n (by first | decide | assumption)).trans ?_; first | assumption | exact x_up_s | (refine (x_up_n (by first | decide | assumption)).trans ?_; first | assumption | exact x_up_s | (refine (x_up_n (by first | decide | assumption)).trans ?_; first | assumption | exact x_up_s)))))))) rfl ?_
        refine x_iload_n (i := 2) dX2_findAsked_39 rfl rfl ?_
        refine x_iast k dX2_findAsked_40 (by first | decide | assumption) (by first | assumption | exact x_up_s | (refine (x_up_n (by first | decide | assumption)).trans ?_; first | assumption | exact x_up_s | (refine (x_up_n (by first | decide | assumption)).trans ?_; first | assumption | exact x_up_s | (refine (x_up_n (by first | decide | assumption)).trans ?_; first | assumption | exact x_up_s | (refine (x_up_n (by first | decide | assumption)).trans ?_; first | assumption | exact x_up_s | (refine (x_up_n (by first | decide | assumption)).trans ?_; first | assumption | exact x_up_s | (refine (x_up_n (by first | decide | assumption)).trans ?_; first | assumption | exact x_up_s | (refine (x_up_n (by first | decide | assumption)).trans ?_; first | assumption | exact x_up_s)))))))) rfl hk4 (by decide) ?_
        rw [csU_upd]
        refine x_aload_n (i := 0) dX2_findAsked_41 rfl rfl ?_
        refine x_dup dX2_findAsked_42 rfl ?_
        refine x_get flX2_36 dX2_findAsked_43 (by first | decide | assumption) (by first | assumption | exact x_up_s | (refine (x_up_n (by first | decide | assumption)).trans ?_; first | assumption | exact x_up_s | (refine (x_up_n (by first | decide | assumption)).trans ?_; first | assumption | exact x_up_s | (refine (x_up_n (by first | decide | assumption)).trans ?_; first | assumption | exact x_up_s | (refine (x_up_n (by first | decide | assumption)).trans ?_; first | assumption | exact x_up_s | (refine (x_up_n (by first | decide | assumption)).trans ?_; first | assumption | exact x_up_s | (refine (x_up_n (by first | decide | assumption)).trans ?_; first | assumption | exact x_up_s | (refine (x_up_n (by first | decide | assumption)).trans ?_; first | assumption | exact x_up_s)))))))) rfl ?_
        refine x_iconst (v := 1) dX2_findAsked_46 (by decide) ?_
        refine x_iadd dX2_findAsked_47 ?_
        refine x_topi (nI_1 k) ?_
        refine x_put fpX2_36 dX2_findAsked_48 (by first | decide | assumption) (by first | assumption | exact x_up_s | (refine (x_up_n (by first | decide | assumption)).trans ?_; first | assumption | exact x_up_s | (refine (x_up_n (by first | decide | assumption)).trans ?_; first | assumption | exact x_up_s | (refine (x_up_n (by first | decide | assumption)).trans ?_; first | assumption | exact x_up_s | (refine (x_up_n (by first | decide | assumption)).trans ?_; first | assumption | exact x_up_s | (refine (x_up_n (by first | decide | assumption)).trans ?_; first | assumption | exact x_up_s | (refine (x_up_n (by first | decide | assumption)).trans ?_; first | assumption | exact x_up_s | (refine (x_up_n (by first | decide | assumption)).trans ?_; first | assumption | exact x_up_s)))))))) rfl rfl (fun _ => rfl) (Nat.le_of_ble_eq_true rfl) rfl ?_
        first | refine x_incN dX2_findAsked_51 rfl (by decide) ?_ | refine x_iinc dX2_findAsked_51 rfl rfl (by decide) ?_
        refine x_goto 7 dX2_findAsked_54 (by decide) ?_
        refine x_hp (h' := x_up (x_up h 15 (x_na 4 (csU f k i))) 10 (x_sr fr wy (nI (k + 1)) ls)) (by funext j9; simp only [x_up]; (repeat' split) <;> first | rfl | omega | simp_all) ?_
        exact x_wk (ih (i + 1) (k + 1) _ (by omega) (by omega) hq) ⟨rfl, rfl, rfl, trivial⟩
      · rw [if_neg (fun q => hk4 q.2)] at hq
        refine x_icmp_ge 51 dX2_findAsked_28 (by decide) (fun _ => ?_) (fun hc => absurd (nI_le (a := 4) (by omega) (by omega)) hc)
        first | refine x_incN dX2_findAsked_51 rfl (by decide) ?_ | refine x_iinc dX2_findAsked_51 rfl rfl (by decide) ?_
        refine x_goto 7 dX2_findAsked_54 (by decide) ?_
        exact x_wk (ih (i + 1) k _ (by omega) (by omega) hq) ⟨rfl, rfl, rfl, trivial⟩
    · rw [if_neg (fun q => h63 q.1)] at hq
      rw [show (cs i == 63) = false by rw [beq_eq_false_iff_ne]; exact h63]
      refine x_if_eq 51 dX2_findAsked_20 (by decide) (fun _ => ?_) (fun hc => absurd (rfl) hc)
      first | refine x_incN dX2_findAsked_51 rfl (by decide) ?_ | refine x_iinc dX2_findAsked_51 rfl rfl (by decide) ?_
      refine x_goto 7 dX2_findAsked_54 (by decide) ?_
      exact x_wk (ih (i + 1) k _ (by omega) (by omega) hq) ⟨rfl, rfl, rfl, trivial⟩
set_option maxRecDepth 100000 in
set_option maxHeartbeats 4000000 in
theorem cR_find (d : Nat) (h : x_H) {n : Nat} {cs : Nat → Nat} (hD : h 1 = x_dy n) (hG : h 2 = x_sg cs) (hok : okD n cs) {fr wy ak ls : Int32} {f : Nat → Nat} (hR : h 10 = x_sr fr wy ak ls) (hF : h 15 = x_na 4 f) : x_Ct (d + 2) mX2_findAsked [.ref 10, .ref 1] h (fun r h' => r = none ∧ h' = x_up (x_up h 15 (x_na 4 (aqA cs n 0 0 f).2)) 10 (x_sr fr wy (nI (aqA cs n 0 0 f).1) ls)) := by
  refine x_enter pnX2_findAsked (Nat.le_of_ble_eq_true rfl) ?_
  refine x_aload_n (i := 0) dX2_findAsked_0 rfl rfl ?_
  refine x_iconst (v := 0) dX2_findAsked_1 (by decide) ?_
  refine x_put fpX2_36 dX2_findAsked_2 (by first | decide | assumption) (by first | assumption | exact x_up_s | (refine (x_up_n (by first | decide | assumption)).trans ?_; first | assumption | exact x_up_s | (refine (x_up_n (by first | decide | assumption)).trans ?_; first | assumption | exact x_up_s | (refine (x_up_n (by first | decide | assumption)).trans ?_; first | assumption | exact x_up_s | (refine (x_up_n (by first | decide | assumption)).trans ?_; first | assumption | exact x_up_s | (refine (x_up_n (by first | decide | assumption)).trans ?_; first | assumption | exact x_up_s | (refine (x_up_n (by first | decide | assumption)).trans ?_; first | assumption | exact x_up_s | (refine (x_up_n (by first | decide | assumption)).trans ?_; first | assumption | exact x_up_s)))))))) rfl rfl (fun _ => rfl) (Nat.le_of_ble_eq_true rfl) rfl ?_
  refine x_iconst (v := 0) dX2_findAsked_5 (by decide) ?_
  refine x_istore_n (i := 2) dX2_findAsked_6 rfl (by decide) ?_
  refine x_hp (h' := x_up (x_up h 15 (x_na 4 f)) 10 (x_sr fr wy (nI 0) ls)) (by rw [x_up_eta hF]; rfl) ?_
  exact x_wk (cR_find_loop d h hD hG hok _ n 0 0 f (by omega) (by omega) ⟨rfl, rfl⟩) ⟨rfl, rfl, rfl, trivial⟩
/-- the sights of a day: whose names are wanted behind so many events, whose not; the last -/
def spA (n : Nat) (se sp ss : Nat → Nat) : Nat → Nat → (Nat → Nat) → (Nat → Nat) → Nat → (Nat → Nat) × (Nat → Nat) × Nat
  | 0, _, W, U, l => (W, U, l)
  | r + 1, k, W, U, l =>
    if se k ≤ n then
      if ss k = 0 then spA n se sp ss r (k + 1) W (csU U (se k) (U (se k) ||| 2 ^ sp k)) (max l (se k))
      else spA n se sp ss r (k + 1) (csU W (se k) (W (se k) ||| 2 ^ sp k)) U (max l (se k))
    else spA n se sp ss r (k + 1) W U l
def zer (f : Nat → Nat) : Nat → Nat := mixN 41 (fun _ => 0) f
theorem n_max {a b : Nat} (ha : a < 2 ^ 31) (hb : b < 2 ^ 31) : (if nI a < nI b then nI b else nI a) = nI (max a b) := by
  by_cases h : a < b
  · rw [if_pos (nI_lt h hb), Nat.max_eq_right (by omega)]
  · rw [if_neg (fun q => h ((nI_ltI ha hb).mp q)), Nat.max_eq_left (by omega)]
set_option maxRecDepth 100000 in
set_option maxHeartbeats 4000000 in
theorem cR_spread_loop (d : Nat) (h : x_H) {n : Nat} (hD : h 1 = x_dy n) (hn : n ≤ 40) {L w q : Nat} {se sp ss : Nat → Nat} (hS : h 3 = x_stK 4 5 6 L w q) (h1 : h 4 = x_na 6 se) (h2 : h 5 = x_na 6 sp) (h3 : h 6 = x_za 6 ss) (hq6 : q ≤ 6) (hse : ∀ j, se j ≤ 40) (hsp : ∀ j, sp j < 8) (hss : ∀ j, ss j ≤ 1) {fr wy ak : Int32} (Q : Option Value → x_H → Prop) :
    ∀ (r k : Nat) (W U : Nat → Nat) (l : Nat), k + r = q → l ≤ 40 → Q none (x_up (x_up (x_up h 17 (x_na 41 (spA n se sp ss r k W U l).1)) 18 (x_na 41 (spA n se sp ss r k W U l).2.1)) 10 (x_sr fr wy ak (nI (spA n se sp ss r k W U l).2.2))) →
      x_V (d + 1) mX2_spreadSights 35 (x_ls [some (.ref 10), some (.ref 1), some (.ref 3), some (.int (nI k))]) [] (x_up (x_up (x_up h 17 (x_na 41 W)) 18 (x_na 41 U)) 10 (x_sr fr wy ak (nI l))) Q := by
  intro r
  induction r with
  | zero =>
    intro k W U l hk hl hq
    refine x_iload_n (i := 3) dX2_spreadSights_35 rfl rfl ?_
    refine x_aload_n (i := 2) dX2_spreadSights_36 rfl rfl ?_
    refine x_get flX2_109 dX2_spreadSights_37 (by first | decide | assumption) (by first | assumption | exact x_up_s | (refine (x_up_n (by first | decide | assumption)).trans ?_; first | assumption | exact x_up_s | (refine (x_up_n (by first | decide | assumption)).trans ?_; first | assumption | exact x_up_s | (refine (x_up_n (by first | decide | assumption)).trans ?_; first | assumption | exact x_up_s | (refine (x_up_n (by first | decide | assumption)).trans ?_; first | assumption | exact x_up_s | (refine (x_up_n (by first | decide | assumption)).trans ?_; first | assumption | exact x_up_s | (refine (x_up_n (by first | decide | assumption)).trans ?_; first | assumption | exact x_up_s | (refine (x_up_n (by first | decide | assumption)).trans ?_; first | assumption | exact x_up_s)))))))) rfl ?_
    refine x_icmp_ge 135 dX2_spreadSights_40 (by decide) (fun _ => ?_) (fun hc => absurd (nI_le (by omega) (by omega)) hc)
    refine x_vret dX2_spreadSights_135 rfl hq
  | succ r ih =>
    intro k W U l hk hl hq
    have hek := hse k
    have hpk := hsp k
    unfold spA at hq
    refine x_iload_n (i := 3) dX2_spreadSights_35 rfl rfl ?_
    refine x_aload_n (i := 2) dX2_spreadSights_36 rfl rfl ?_
    refine x_get flX2_109 dX2_spreadSights_37 (by first | decide | assumption) (by first | assumption | exact x_up_s | (refine (x_up_n (by first | decide | assumption)).trans ?_; first | assumption | exact x_up_s | (refine (x_up_n (by first | decide | assumption)).trans ?_; first | assumption | exact x_up_s | (refine (x_up_n (by first | decide | assumption)).trans ?_; first | assumption | exact x_up_s | (refine (x_up_n (by first | decide | assumption)).trans ?_; first | assumption | exact x_up_s | (refine (x_up_n (by first | decide | assumption)).trans ?_; first | assumption | exact x_up_s | (refine (x_up_n (by first | decide | assumption)).trans ?_; first | assumption | exact x_up_s | (refine (x_up_n (by first | decide | assumption)).trans ?_; first | assumption | exact x_up_s)))))))) rfl ?_
    refine x_icmp_ge 135 dX2_spreadSights_40 (by decide) (fun hc => absurd hc (nI_ge (by omega) (by omega))) (fun _ => ?_)
    refine x_iload_n (i := 3) dX2_spreadSights_43 rfl rfl ?_
    refine x_bipush (v := 6) dX2_spreadSights_44 (by decide) ?_
    refine x_icmp_ge 135 dX2_spreadSights_46 (by decide) (fun hc => absurd hc (nI_ge (b := 6) (by omega) (by decide))) (fun _ => ?_)
    refine x_aload_n (i := 2) dX2_spreadSights_49 rfl rfl ?_
    refine x_get flX2_112 dX2_spreadSights_50 (by first | decide | assumption) (by first | assumption | exact x_up_s | (refine (x_up_n (by first | decide | assumption)).trans ?_; first | assumption | exact x_up_s | (refine (x_up_n (by first | decide | assumption)).trans ?_; first | assumption | exact x_up_s | (refine (x_up_n (by first | decide | assumption)).trans ?_; first | assumption | exact x_up_s | (refine (x_up_n (by first | decide | assumption)).trans ?_; first | assumption | exact x_up_s | (refine (x_up_n (by first | decide | assumption)).trans ?_; first | assumption | exact x_up_s | (refine (x_up_n (by first | decide | assumption)).trans ?_; first | assumption | exact x_up_s | (refine (x_up_n (by first | decide | assumption)).trans ?_; first | assumption | exact x_up_s)))))))) rfl ?_
    refine x_iload_n (i := 3) dX2_spreadSights_53 rfl rfl ?_
    refine x_iald k dX2_spreadSights_54 (by first | decide | assumption) (by first | assumption | exact x_up_s | (refine (x_up_n (by first | decide | assumption)).trans ?_; first | assumption | exact x_up_s | (refine (x_up_n (by first | decide | assumption)).trans ?_; first | assumption | exact x_up_s | (refine (x_up_n (by first | decide | assumption)).trans ?_; first | assumption | exact x_up_s | (refine (x_up_n (by first | decide | assumption)).trans ?_; first | assumption | exact x_up_s | (refine (x_up_n (by first | decide | assumption)).trans ?_; first | assumption | exact x_up_s | (refine (x_up_n (by first | decide | assumption)).trans ?_; first | assumption | exact x_up_s | (refine (x_up_n (by first | decide | assumption)).trans ?_; first | assumption | exact x_up_s)))))))) rfl (by omega) (by decide) ?_
    refine x_istore dX2_spreadSights_55 (by decide) ?_
    refine x_iload dX2_spreadSights_57 rfl ?_
    refine x_if_lt 129 dX2_spreadSights_59 (by decide) (fun hc => absurd hc (nI_pos (by omega))) (fun _ => ?_)
    refine x_iload dX2_spreadSights_62 rfl ?_
    refine x_aload_n (i := 1) dX2_spreadSights_64 rfl rfl ?_
    refine x_get flX2_103 dX2_spreadSights_65 (by first | decide | assumption) (by first | assumption | exact x_up_s | (refine (x_up_n (by first | decide | assumption)).trans ?_; first | assumption | exact x_up_s | (refine (x_up_n (by first | decide | assumption)).trans ?_; first | assumption | exact x_up_s | (refine (x_up_n (by first | decide | assumption)).trans ?_; first | assumption | exact x_up_s | (refine (x_up_n (by first | decide | assumption)).trans ?_; first | assumption | exact x_up_s | (refine (x_up_n (by first | decide | assumption)).trans ?_; first | assumption | exact x_up_s | (refine (x_up_n (by first | decide | assumption)).trans ?_; first | assumption | exact x_up_s | (refine (x_up_n (by first | decide | assumption)).trans ?_; first | assumption | exact x_up_s)))))))) rfl ?_
    by_cases hen : se k ≤ n
    · rw [if_pos hen] at hq
      refine x_icmp_gt 129 dX2_spreadSights_68 (by decide) (fun hc => absurd hc (fun q => absurd ((nI_ltI (by omega) (by omega)).mp q) (by omega))) (fun _ => ?_)
      refine x_iload dX2_spreadSights_71 rfl ?_
      refine x_bipush (v := 40) dX2_spreadSights_73 (by decide) ?_
      refine x_icmp_gt 129 dX2_spreadSights_75 (by decide) (fun hc => absurd hc (fun q => absurd ((nI_ltI (a := 40) (by decide) (by omega)).mp q) (by omega))) (fun _ => ?_)
      refine x_aload_n (i := 2) dX2_spreadSights_78 rfl rfl ?_
      refine x_get flX2_115 dX2_spreadSights_79 (by first | decide | assumption) (by first | assumption | exact x_up_s | (refine (x_up_n (by first | decide | assumption)).trans ?_; first | assumption | exact x_up_s | (refine (x_up_n (by first | decide | assumption)).trans ?_; first | assumption | exact x_up_s | (refine (x_up_n (by first | decide | assumption)).trans ?_; first | assumption | exact x_up_s | (refine (x_up_n (by first | decide | assumption)).trans ?_; first | assumption | exact x_up_s | (refine (x_up_n (by first | decide | assumption)).trans ?_; first | assumption | exact x_up_s | (refine (x_up_n (by first | decide | assumption)).trans ?_; first | assumption | exact x_up_s | (refine (x_up_n (by first | decide | assumption)).trans ?_; first | assumption | exact x_up_s)))))))) rfl ?_
      refine x_iload_n (i := 3) dX2_spreadSights_82 rfl rfl ?_
      refine x_zald k dX2_spreadSights_83 (by first | decide | assumption) (by first | assumption | exact x_up_s | (refine (x_up_n (by first | decide | assumption)).trans ?_; first | assumption | exact x_up_s | (refine (x_up_n (by first | decide | assumption)).trans ?_; first | assumption | exact x_up_s | (refine (x_up_n (by first | decide | assumption)).trans ?_; first | assumption | exact x_up_s | (refine (x_up_n (by first | decide | assumption)).trans ?_; first | assumption | exact x_up_s | (refine (x_up_n (by first | decide | assumption)).trans ?_; first | assumption | exact x_up_s | (refine (x_up_n (by first | decide | assumption)).trans ?_; first | assumption | exact x_up_s | (refine (x_up_n (by first | decide | assumption)).trans ?_; first | assumption | exact x_up_s)))))))) rfl (by omega) (by decide) ?_
      have hmax : (if nI l < nI (se k) then nI (se k) else nI l) = nI (max l (se k)) := n_max (by omega) (by omega)
      by_cases hs0 : ss k = 0
      · rw [if_pos hs0] at hq
        refine x_if_eq 94 dX2_spreadSights_84 (by decide) (fun _ => ?_) (fun hc => absurd (by rw [hs0]; rfl) hc)
        refine x_aload_n (i := 0) dX2_spreadSights_94 rfl rfl ?_
        refine x_get flX2_48 dX2_spreadSights_95 (by first | decide | assumption) (by first | assumption | exact x_up_s | (refine (x_up_n (by first | decide | assumption)).trans ?_; first | assumption | exact x_up_s | (refine (x_up_n (by first | decide | assumption)).trans ?_; first | assumption | exact x_up_s | (refine (x_up_n (by first | decide | assumption)).trans ?_; first | assumption | exact x_up_s | (refine (x_up_n (by first | decide | assumption)).trans ?_; first | assumption | exact x_up_s | (refine (x_up_n (by first | decide | assumption)).trans ?_; first | assumption | exact x_up_s | (refine (x_up_n (by first | decide | assumption)).trans ?_; first | assumption | exact x_up_s | (refine (x_up_n (by first | decide | assumption)).trans ?_; first | assumption | exact x_up_s)))))))) rfl ?_
        refine x_astore dX2_spreadSights_98 (by decide) ?_
        refine x_aload dX2_spreadSights_100 rfl ?_
        refine x_iload dX2_spreadSights_102 rfl ?_
        refine x_dup2 dX2_spreadSights_104 rfl rfl ?_
        refine x_iald (se k) dX2_spreadSights_105 (by first | decide | assumption) (by first | assumption | exact x_up_s | (refine (x_up_n (by first | decide | assumption)).trans ?_; first | assumption | exact x_up_s | (refine (x_up_n (by first | decide | assumption)).trans ?_; first | assumption | exact x_up_s | (refine (x_up_n (by first | decide | assumption)).trans ?_; first | assumption | exact x_up_s | (refine (x_up_n (by first | decide | assumption)).trans ?_; first | assumption | exact x_up_s | (refine (x_up_n (by first | decide | assumption)).trans ?_; first | assumption | exact x_up_s | (refine (x_up_n (by first | decide | assumption)).trans ?_; first | assumption | exact x_up_s | (refine (x_up_n (by first | decide | assumption)).trans ?_; first | assumption | exact x_up_s)))))))) rfl (by omega) (by decide) ?_
        refine x_iconst (v := 1) dX2_spreadSights_106 (by decide) ?_
        refine x_aload_n (i := 2) dX2_spreadSights_107 rfl rfl ?_
        refine x_get flX2_119 dX2_spreadSights_108 (by first | decide | assumption) (by first | assumption | exact x_up_s | (refine (x_up_n (by first | decide | assumption)).trans ?_; first | assumption | exact x_up_s | (refine (x_up_n (by first | decide | assumption)).trans ?_; first | assumption | exact x_up_s | (refine (x_up_n (by first | decide | assumption)).trans ?_; first | assumption | exact x_up_s | (refine (x_up_n (by first | decide | assumption)).trans ?_; first | assumption | exact x_up_s | (refine (x_up_n (by first | decide | assumption)).trans ?_; first | assumption | exact x_up_s | (refine (x_up_n (by first | decide | assumption)).trans ?_; first | assumption | exact x_up_s | (refine (x_up_n (by first | decide | assumption)).trans ?_; first | assumption | exact x_up_s)))))))) rfl ?_
        refine x_iload_n (i := 3) dX2_spreadSights_111 rfl rfl ?_
        refine x_iald k dX2_spreadSights_112 (by first | decide | assumption) (by first | assumption | exact x_up_s | (refine (x_up_n (by first | decide | assumption)).trans ?_; first | assumption | exact x_up_s | (refine (x_up_n (by first | decide | assumption)).trans ?_; first | assumption | exact x_up_s | (refine (x_up_n (by first | decide | assumption)).trans ?_; first | assumption | exact x_up_s | (refine (x_up_n (by first | decide | assumption)).trans ?_; first | assumption | exact x_up_s | (refine (x_up_n (by first | decide | assumption)).trans ?_; first | assumption | exact x_up_s | (refine (x_up_n (by first | decide | assumption)).trans ?_; first | assumption | exact x_up_s | (refine (x_up_n (by first | decide | assumption)).trans ?_; first | assumption | exact x_up_s)))))))) rfl (by omega) (by decide) ?_
        refine x_ishl dX2_spreadSights_113 ?_
        refine x_ior dX2_spreadSights_114 ?_
        refine x_topi (y := nI (U (se k) ||| 2 ^ sp k)) (by rw [n_one_shl _ (by omega), n_or]) ?_
        refine x_iast (se k) dX2_spreadSights_115 (by first | decide | assumption) (by first | assumption | exact x_up_s | (refine (x_up_n (by first | decide | assumption)).trans ?_; first | assumption | exact x_up_s | (refine (x_up_n (by first | decide | assumption)).trans ?_; first | assumption | exact x_up_s | (refine (x_up_n (by first | decide | assumption)).trans ?_; first | assumption | exact x_up_s | (refine (x_up_n (by first | decide | assumption)).trans ?_; first | assumption | exact x_up_s | (refine (x_up_n (by first | decide | assumption)).trans ?_; first | assumption | exact x_up_s | (refine (x_up_n (by first | decide | assumption)).trans ?_; first | assumption | exact x_up_s | (refine (x_up_n (by first | decide | assumption)).trans ?_; first | assumption | exact x_up_s)))))))) rfl (by omega) (by decide) ?_
        rw [csU_upd]
        refine x_aload_n (i := 0) dX2_spreadSights_116 rfl rfl ?_
        refine x_aload_n (i := 0) dX2_spreadSights_117 rfl rfl ?_
        refine x_get flX2_51 dX2_spreadSights_118 (by first | decide | assumption) (by first | assumption | exact x_up_s | (refine (x_up_n (by first | decide | assumption)).trans ?_; first | assumption | exact x_up_s | (refine (x_up_n (by first | decide | assumption)).trans ?_; first | assumption | exact x_up_s | (refine (x_up_n (by first | decide | assumption)).trans ?_; first | assumption | exact x_up_s | (refine (x_up_n (by first | decide | assumption)).trans ?_; first | assumption | exact x_up_s | (refine (x_up_n (by first | decide | assumption)).trans ?_; first | assumption | exact x_up_s | (refine (x_up_n (by first | decide | assumption)).trans ?_; first | assumption | exact x_up_s | (refine (x_up_n (by first | decide | assumption)).trans ?_; first | assumption | exact x_up_s)))))))) rfl ?_
        refine x_iload dX2_spreadSights_121 rfl ?_
        refine x_mmax lkX2_122 dX2_spreadSights_123 (by omega) (Nat.le_of_ble_eq_true rfl) ?_
        refine x_topi hmax ?_
        refine x_put fpX2_51 dX2_spreadSights_126 (by first | decide | assumption) (by first | assumption | exact x_up_s | (refine (x_up_n (by first | decide | assumption)).trans ?_; first | assumption | exact x_up_s | (refine (x_up_n (by first | decide | assumption)).trans ?_; first | assumption | exact x_up_s | (refine (x_up_n (by first | decide | assumption)).trans ?_; first | assumption | exact x_up_s | (refine (x_up_n (by first | decide | assumption)).trans ?_; first | assumption | exact x_up_s | (refine (x_up_n (by first | decide | assumption)).trans ?_; first | assumption | exact x_up_s | (refine (x_up_n (by first | decide | assumption)).trans ?_; first | assumption | exact x_up_s | (refine (x_up_n (by first | decide | assumption)).trans ?_; first | assumption | exact x_up_s)))))))) rfl rfl (fun _ => rfl) (Nat.le_of_ble_eq_true rfl) rfl ?_
        first | refine x_incN dX2_spreadSights_129 rfl (by decide) ?_ | refine x_iinc dX2_spreadSights_129 rfl rfl (by decide) ?_
        refine x_goto 35 dX2_spreadSights_132 (by decide) ?_
        refine x_hp (h' := x_up (x_up (x_up h 17 (x_na 41 W)) 18 (x_na 41 (csU U (se k) (U (se k) ||| 2 ^ sp k)))) 10 (x_sr fr wy ak (nI (max l (se k))))) (by funext j9; simp only [x_up]; (repeat' split) <;> first | rfl | omega | simp_all) ?_
        exact x_wk (ih (k + 1) _ _ _ (by omega) (by omega) hq) ⟨rfl, rfl, rfl, rfl, trivial⟩
      · have hs1 : ss k = 1 := by have := hss k; omega
        rw [if_neg hs0] at hq
        refine x_if_eq 94 dX2_spreadSights_84 (by decide) (fun hc => absurd hc (by rw [hs1]; decide)) (fun _ => ?_)
        refine x_aload_n (i := 0) dX2_spreadSights_87 rfl rfl ?_
        refine x_get flX2_45 dX2_spreadSights_88 (by first | decide | assumption) (by first | assumption | exact x_up_s | (refine (x_up_n (by first | decide | assumption)).trans ?_; first | assumption | exact x_up_s | (refine (x_up_n (by first | decide | assumption)).trans ?_; first | assumption | exact x_up_s | (refine (x_up_n (by first | decide | assumption)).trans ?_; first | assumption | exact x_up_s | (refine (x_up_n (by first | decide | assumption)).trans ?_; first | assumption | exact x_up_s | (refine (x_up_n (by first | decide | assumption)).trans ?_; first | assumption | exact x_up_s | (refine (x_up_n (by first | decide | assumption)).trans ?_; first | assumption | exact x_up_s | (refine (x_up_n (by first | decide | assumption)).trans ?_; first | assumption | exact x_up_s)))))))) rfl ?_
        refine x_goto 98 dX2_spreadSights_91 (by decide) ?_
        refine x_astore dX2_spreadSights_98 (by decide) ?_
        refine x_aload dX2_spreadSights_100 rfl ?_
        refine x_iload dX2_spreadSights_102 rfl ?_
        refine x_dup2 dX2_spreadSights_104 rfl rfl ?_
        refine x_iald (se k) dX2_spreadSights_105 (by first | decide | assumption) (by first | assumption | exact x_up_s | (refine (x_up_n (by first | decide | assumption)).trans ?_; first | assumption | exact x_up_s | (refine (x_up_n (by first | decide | assumption)).trans ?_; first | assumption | exact x_up_s | (refine (x_up_n (by first | decide | assumption)).trans ?_; first | assumption | exact x_up_s | (refine (x_up_n (by first | decide | assumption)).trans ?_; first | assumption | exact x_up_s | (refine (x_up_n (by first | decide | assumption)).trans ?_; first | assumption | exact x_up_s | (refine (x_up_n (by first | decide | assumption)).trans ?_; first | assumption | exact x_up_s | (refine (x_up_n (by first | decide | assumption)).trans ?_; first | assumption | exact x_up_s)))))))) rfl (by omega) (by decide) ?_
        refine x_iconst (v := 1) dX2_spreadSights_106 (by decide) ?_
        refine x_aload_n (i := 2) dX2_spreadSights_107 rfl rfl ?_
        refine x_get flX2_119 dX2_spreadSights_108 (by first | decide | assumption) (by first | assumption | exact x_up_s | (refine (x_up_n (by first | decide | assumption)).trans ?_; first | assumption | exact x_up_s | (refine (x_up_n (by first | decide | assumption)).trans ?_; first | assumption | exact x_up_s | (refine (x_up_n (by first | decide | assumption)).trans ?_; first | assumption | exact x_up_s | (refine (x_up_n (by first | decide | assumption)).trans ?_; first | assumption | exact x_up_s | (refine (x_up_n (by first | decide | assumption)).trans ?_; first | assumption | exact x_up_s | (refine (x_up_n (by first | decide | assumption)).trans ?_; first | assumption | exact x_up_s | (refine (x_up_n (by first | decide | assumption)).trans ?_; first | assumption | exact x_up_s)))))))) rfl ?_
        refine x_iload_n (i := 3) dX2_spreadSights_111 rfl rfl ?_
        refine x_iald k dX2_spreadSights_112 (by first | decide | assumption) (by first | assumption | exact x_up_s | (refine (x_up_n (by first | decide | assumption)).trans ?_; first | assumption | exact x_up_s | (refine (x_up_n (by first | decide | assumption)).trans ?_; first | assumption | exact x_up_s | (refine (x_up_n (by first | decide | assumption)).trans ?_; first | assumption | exact x_up_s | (refine (x_up_n (by first | decide | assumption)).trans ?_; first | assumption | exact x_up_s | (refine (x_up_n (by first | decide | assumption)).trans ?_; first | assumption | exact x_up_s | (refine (x_up_n (by first | decide | assumption)).trans ?_; first | assumption | exact x_up_s | (refine (x_up_n (by first | decide | assumption)).trans ?_; first | assumption | exact x_up_s)))))))) rfl (by omega) (by decide) ?_
        refine x_ishl dX2_spreadSights_113 ?_
        refine x_ior dX2_spreadSights_114 ?_
        refine x_topi (y := nI (W (se k) ||| 2 ^ sp k)) (by rw [n_one_shl _ (by omega), n_or]) ?_
        refine x_iast (se k) dX2_spreadSights_115 (by first | decide | assumption) (by first | assumption | exact x_up_s | (refine (x_up_n (by first | decide | assumption)).trans ?_; first | assumption | exact x_up_s | (refine (x_up_n (by first | decide | assumption)).trans ?_; first | assumption | exact x_up_s | (refine (x_up_n (by first | decide | assumption)).trans ?_; first | assumption | exact x_up_s | (refine (x_up_n (by first | decide | assumption)).trans ?_; first | assumption | exact x_up_s | (refine (x_up_n (by first | decide | assumption)).trans ?_; first | assumption | exact x_up_s | (refine (x_up_n (by first | decide | assumption)).trans ?_; first | assumption | exact x_up_s | (refine (x_up_n (by first | decide | assumption)).trans ?_; first | assumption | exact x_up_s)))))))) rfl (by omega) (by decide) ?_
        rw [csU_upd]
        refine x_aload_n (i := 0) dX2_spreadSights_116 rfl rfl ?_
        refine x_aload_n (i := 0) dX2_spreadSights_117 rfl rfl ?_
        refine x_get flX2_51 dX2_spreadSights_118 (by first | decide | assumption) (by first | assumption | exact x_up_s | (refine (x_up_n (by first | decide | assumption)).trans ?_; first | assumption | exact x_up_s | (refine (x_up_n (by first | decide | assumption)).trans ?_; first | assumption | exact x_up_s | (refine (x_up_n (by first | decide | assumption)).trans ?_; first | assumption | exact x_up_s | (refine (x_up_n (by first | decide | assumption)).trans ?_; first | assumption | exact x_up_s | (refine (x_up_n (by first | decide | assumption)).trans ?_; first | assumption | exact x_up_s | (refine (x_up_n (by first | decide | assumption)).trans ?_; first | assumption | exact x_up_s | (refine (x_up_n (by first | decide | assumption)).trans ?_; first | assumption | exact x_up_s)))))))) rfl ?_
        refine x_iload dX2_spreadSights_121 rfl ?_
        refine x_mmax lkX2_122 dX2_spreadSights_123 (by omega) (Nat.le_of_ble_eq_true rfl) ?_
        refine x_topi hmax ?_
        refine x_put fpX2_51 dX2_spreadSights_126 (by first | decide | assumption) (by first | assumption | exact x_up_s | (refine (x_up_n (by first | decide | assumption)).trans ?_; first | assumption | exact x_up_s | (refine (x_up_n (by first | decide | assumption)).trans ?_; first | assumption | exact x_up_s | (refine (x_up_n (by first | decide | assumption)).trans ?_; first | assumption | exact x_up_s | (refine (x_up_n (by first | decide | assumption)).trans ?_; first | assumption | exact x_up_s | (refine (x_up_n (by first | decide | assumption)).trans ?_; first | assumption | exact x_up_s | (refine (x_up_n (by first | decide | assumption)).trans ?_; first | assumption | exact x_up_s | (refine (x_up_n (by first | decide | assumption)).trans ?_; first | assumption | exact x_up_s)))))))) rfl rfl (fun _ => rfl) (Nat.le_of_ble_eq_true rfl) rfl ?_
        first | refine x_incN dX2_spreadSights_129 rfl (by decide) ?_ | refine x_iinc dX2_spreadSights_129 rfl rfl (by decide) ?_
        refine x_goto 35 dX2_spreadSights_132 (by decide) ?_
        refine x_hp (h' := x_up (x_up (x_up h 17 (x_na 41 (csU W (se k) (W (se k) ||| 2 ^ sp k)))) 18 (x_na 41 U)) 10 (x_sr fr wy ak (nI (max l (se k))))) (by funext j9; simp only [x_up]; (repeat' split) <;> first | rfl | omega | simp_all) ?_
        exact x_wk (ih (k + 1) _ _ _ (by omega) (by omega) hq) ⟨rfl, rfl, rfl, rfl, trivial⟩
    · rw [if_neg hen] at hq
      refine x_icmp_gt 129 dX2_spreadSights_68 (by decide) (fun _ => ?_) (fun hc => absurd (nI_lt (by omega) (by omega)) hc)
      first | refine x_incN dX2_spreadSights_129 rfl (by decide) ?_ | refine x_iinc dX2_spreadSights_129 rfl rfl (by decide) ?_
      refine x_goto 35 dX2_spreadSights_132 (by decide) ?_
      exact x_wk (ih (k + 1) _ _ _ (by omega) (by omega) hq) ⟨rfl, rfl, rfl, rfl, trivial⟩
