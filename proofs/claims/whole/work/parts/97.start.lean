/-! the law's loop -/
theorem and31 (x : Int32) : ∃ k, k < 32 ∧ x &&& 31 = nI k := by
  refine ⟨(x &&& 31).toBitVec.toNat, ?_, ?_⟩
  · rw [Int32.toBitVec_and, BitVec.toNat_and]
    exact Nat.lt_of_le_of_lt Nat.and_le_right (by decide)
  · apply Int32.toBitVec_inj.mp
    apply BitVec.eq_of_toNat_eq
    show _ = (BitVec.ofNat 32 _).toNat
    rw [BitVec.toNat_ofNat, Nat.mod_eq_of_lt (BitVec.isLt _)]
section LL
variable {p : Program} {l : Launch} {e : Env} {s : State} {m : MethodId} {below : List Frame} {meth : Method} {c : Code} {D : va_G} {dA : Nat → ClassId} {ad : Nat → Nat} {b L : Nat} {xs : Nat → Int32}
set_option maxRecDepth 100000 in
set_option maxHeartbeats 4000000 in
/-- the switch: which of the 26, or none -/
theorem l_switch {lsc : Array Slot} {i : Nat} {h : x_H} (C0 : lw_At p s m meth c b L xs) (hL : L ≤ 2048) (hK : x_K D dA s) (Lc : l_L ad b lsc i) (hi : i + 4 ≤ L) (hR : RX h) (k : ∀ h', RX h' → l_V p l e s m below meth c D dA ad b lsc 826 [] h') (x : Int32) :
    l_V p l e s m below meth c D dA ad b lsc 32 [.int (x &&& 31)] h := by
  intro H locs Wd
  obtain ⟨j, hj, ej⟩ := and31 x
  rw [ej]
  by_cases h26 : 26 ≤ j
  · exact lv_tableOut (tgt := 826) C0.1 C0.2.1 dL_law_32 (Or.inr (by rw [nI_toInt (by omega)]; omega)) (by decide) (k h hR H locs Wd)
  · rcases (show j = 0 ∨ j = 1 ∨ j = 2 ∨ j = 3 ∨ j = 4 ∨ j = 5 ∨ j = 6 ∨ j = 7 ∨ j = 8 ∨ j = 9 ∨ j = 10 ∨ j = 11 ∨ j = 12 ∨ j = 13 ∨ j = 14 ∨ j = 15 ∨ j = 16 ∨ j = 17 ∨ j = 18 ∨ j = 19 ∨ j = 20 ∨ j = 21 ∨ j = 22 ∨ j = 23 ∨ j = 24 ∨ j = 25 by omega) with rfl | rfl | rfl | rfl | rfl | rfl | rfl | rfl | rfl | rfl | rfl | rfl | rfl | rfl | rfl | rfl | rfl | rfl | rfl | rfl | rfl | rfl | rfl | rfl | rfl | rfl
    · exact lv_tableIn (tgt := 152) (off := 120) C0.1 C0.2.1 dL_law_32 (by decide) (by decide) (by decide) (by decide) (l_c0 C0 hL hK Lc hi hR k H locs Wd)
    · exact lv_tableIn (tgt := 185) (off := 153) C0.1 C0.2.1 dL_law_32 (by decide) (by decide) (by decide) (by decide) (l_c1 C0 hL hK Lc hi hR k H locs Wd)
    · exact lv_tableIn (tgt := 208) (off := 176) C0.1 C0.2.1 dL_law_32 (by decide) (by decide) (by decide) (by decide) (l_c2 C0 hL hK Lc hi hR k H locs Wd)
    · exact lv_tableIn (tgt := 221) (off := 189) C0.1 C0.2.1 dL_law_32 (by decide) (by decide) (by decide) (by decide) (l_c3 C0 hL hK Lc hi hR k H locs Wd)
    · exact lv_tableIn (tgt := 234) (off := 202) C0.1 C0.2.1 dL_law_32 (by decide) (by decide) (by decide) (by decide) (l_c4 C0 hL hK Lc hi hR k H locs Wd)
    · exact lv_tableIn (tgt := 267) (off := 235) C0.1 C0.2.1 dL_law_32 (by decide) (by decide) (by decide) (by decide) (l_c5 C0 hL hK Lc hi hR k H locs Wd)
    · exact lv_tableIn (tgt := 290) (off := 258) C0.1 C0.2.1 dL_law_32 (by decide) (by decide) (by decide) (by decide) (l_c6 C0 hL hK Lc hi hR k H locs Wd)
    · exact lv_tableIn (tgt := 313) (off := 281) C0.1 C0.2.1 dL_law_32 (by decide) (by decide) (by decide) (by decide) (l_c7 C0 hL hK Lc hi hR k H locs Wd)
    · exact lv_tableIn (tgt := 336) (off := 304) C0.1 C0.2.1 dL_law_32 (by decide) (by decide) (by decide) (by decide) (l_c8 C0 hL hK Lc hi hR k H locs Wd)
    · exact lv_tableIn (tgt := 379) (off := 347) C0.1 C0.2.1 dL_law_32 (by decide) (by decide) (by decide) (by decide) (l_c9 C0 hL hK Lc hi hR k H locs Wd)
    · exact lv_tableIn (tgt := 412) (off := 380) C0.1 C0.2.1 dL_law_32 (by decide) (by decide) (by decide) (by decide) (l_c10 C0 hL hK Lc hi hR k H locs Wd)
    · exact lv_tableIn (tgt := 435) (off := 403) C0.1 C0.2.1 dL_law_32 (by decide) (by decide) (by decide) (by decide) (l_c11 C0 hL hK Lc hi hR k H locs Wd)
    · exact lv_tableIn (tgt := 458) (off := 426) C0.1 C0.2.1 dL_law_32 (by decide) (by decide) (by decide) (by decide) (l_c12 C0 hL hK Lc hi hR k H locs Wd)
    · exact lv_tableIn (tgt := 481) (off := 449) C0.1 C0.2.1 dL_law_32 (by decide) (by decide) (by decide) (by decide) (l_c13 C0 hL hK Lc hi hR k H locs Wd)
    · exact lv_tableIn (tgt := 504) (off := 472) C0.1 C0.2.1 dL_law_32 (by decide) (by decide) (by decide) (by decide) (l_c14 C0 hL hK Lc hi hR k H locs Wd)
    · exact lv_tableIn (tgt := 527) (off := 495) C0.1 C0.2.1 dL_law_32 (by decide) (by decide) (by decide) (by decide) (l_c15 C0 hL hK Lc hi hR k H locs Wd)
    · exact lv_tableIn (tgt := 586) (off := 554) C0.1 C0.2.1 dL_law_32 (by decide) (by decide) (by decide) (by decide) (l_c16 C0 hL hK Lc hi hR k H locs Wd)
    · exact lv_tableIn (tgt := 599) (off := 567) C0.1 C0.2.1 dL_law_32 (by decide) (by decide) (by decide) (by decide) (l_c17 C0 hL hK Lc hi hR k H locs Wd)
    · exact lv_tableIn (tgt := 622) (off := 590) C0.1 C0.2.1 dL_law_32 (by decide) (by decide) (by decide) (by decide) (l_c18 C0 hL hK Lc hi hR k H locs Wd)
    · exact lv_tableIn (tgt := 645) (off := 613) C0.1 C0.2.1 dL_law_32 (by decide) (by decide) (by decide) (by decide) (l_c19 C0 hL hK Lc hi hR k H locs Wd)
    · exact lv_tableIn (tgt := 668) (off := 636) C0.1 C0.2.1 dL_law_32 (by decide) (by decide) (by decide) (by decide) (l_c20 C0 hL hK Lc hi hR k H locs Wd)
    · exact lv_tableIn (tgt := 691) (off := 659) C0.1 C0.2.1 dL_law_32 (by decide) (by decide) (by decide) (by decide) (l_c21 C0 hL hK Lc hi hR k H locs Wd)
    · exact lv_tableIn (tgt := 714) (off := 682) C0.1 C0.2.1 dL_law_32 (by decide) (by decide) (by decide) (by decide) (l_c22 C0 hL hK Lc hi hR k H locs Wd)
    · exact lv_tableIn (tgt := 757) (off := 725) C0.1 C0.2.1 dL_law_32 (by decide) (by decide) (by decide) (by decide) (l_c23 C0 hL hK Lc hi hR k H locs Wd)
    · exact lv_tableIn (tgt := 780) (off := 748) C0.1 C0.2.1 dL_law_32 (by decide) (by decide) (by decide) (by decide) (l_c24 C0 hL hK Lc hi hR k H locs Wd)
    · exact lv_tableIn (tgt := 803) (off := 771) C0.1 C0.2.1 dL_law_32 (by decide) (by decide) (by decide) (by decide) (l_c25 C0 hL hK Lc hi hR k H locs Wd)
theorem l_gt {i : Nat} (hL : L ≤ 2048) (hi : i ≤ 2048) : (Int32.ofNat L - nI 4 < nI i) ↔ L < i + 4 := by
  rw [Int32.lt_iff_toInt_lt, nI_toInt (by omega)]
  have e : (Int32.ofNat L - nI 4).toInt = (L : Int) - 4 := by
    have h1 : (nI L).toInt = (L : Int) := nI_toInt (by omega)
    have h4 : (nI 4).toInt = 4 := by decide
    show (nI L - nI 4).toInt = _
    rw [Int32.toInt_sub, h1, h4]
    exact Int.bmod_eq_of_le (by omega) (by omega)
  rw [e]
  omega
theorem l_end {lsc : Array Slot} {h : x_H} {H : Heap} {locs : List Loc} (C0 : lw_At p s m meth c b L xs) (Wd : x_Wd D dA ad (fun q => s.heap.size ≤ q) h s H locs) : W p l e room_1 s m #[Value.ref b] below meth c H locs 43 578 (lw_Z below #[Value.ref b] s) (F0 m 832 lsc []) := by
  refine lv_iconst (v := 1) C0.1 C0.2.1 dL_law_832 (by decide) ?_
  refine va_forget (fun q hq => Wd.2.1.2.2 q hq) ?_
  refine W.widen (k := 600000) (n := 7302250) (by decide) (by decide) ?_
  exact lw_ret C0.1 C0.2.1 C0.2.2.1 C0.2.2.2.2.2.2.2.2.1 dL_law_833
set_option maxRecDepth 100000 in
set_option maxHeartbeats 4000000 in
theorem l_loop (C0 : lw_At p s m meth c b L xs) (hL : L ≤ 2048) (hK : x_K D dA s) : ∀ (n i : Nat) (lsc : Array Slot) (h : x_H), L ≤ i + n → i ≤ L → l_L ad b lsc i → RX h → l_V p l e s m below meth c D dA ad b lsc 18 [] h := by
  intro n
  induction n with
  | zero =>
    intro i lsc h h1 h2 Lc hR H locs Wd
    refine lv_iload_n C0.1 C0.2.1 dL_law_18 rfl (lv_at Lc 3 rfl) ?_
    refine lv_aload_n C0.1 C0.2.1 dL_law_19 rfl (lv_at Lc 0 rfl) ?_
    refine va_slen (A := fun q => s.heap.size ≤ q) C0.1 C0.2.1 C0.2.2.2.2.2.2.1 C0.2.2.2.2.2.2.2.1 (Nat.not_le.mpr C0.2.2.2.2.2.2.2.1) Wd.2.1 dL_law_20 ?_
    refine lv_iconst (v := nI 4) C0.1 C0.2.1 dL_law_21 (by decide) ?_
    refine lv_isub C0.1 C0.2.1 dL_law_22 ?_
    refine lv_icmp_gt (tgt := 832) C0.1 C0.2.1 dL_law_23 (by decide) (fun _ => ?_) (fun hn => ?_)
    · exact l_end C0 Wd
    · exact absurd ((l_gt hL (by omega)).mpr (by omega)) hn
  | succ n ih =>
    intro i lsc h h1 h2 Lc hR H locs Wd
    refine lv_iload_n C0.1 C0.2.1 dL_law_18 rfl (lv_at Lc 3 rfl) ?_
    refine lv_aload_n C0.1 C0.2.1 dL_law_19 rfl (lv_at Lc 0 rfl) ?_
    refine va_slen (A := fun q => s.heap.size ≤ q) C0.1 C0.2.1 C0.2.2.2.2.2.2.1 C0.2.2.2.2.2.2.2.1 (Nat.not_le.mpr C0.2.2.2.2.2.2.2.1) Wd.2.1 dL_law_20 ?_
    refine lv_iconst (v := nI 4) C0.1 C0.2.1 dL_law_21 (by decide) ?_
    refine lv_isub C0.1 C0.2.1 dL_law_22 ?_
    refine lv_icmp_gt (tgt := 832) C0.1 C0.2.1 dL_law_23 (by decide) (fun _ => ?_) (fun hn => ?_)
    · exact l_end C0 Wd
    · have hi : i + 4 ≤ L := by
        rcases Nat.lt_or_ge L (i + 4) with q | q
        · exact absurd ((l_gt hL (by omega)).mpr q) hn
        · exact q
      refine lv_aload_n C0.1 C0.2.1 dL_law_26 rfl (lv_at Lc 0 rfl) ?_
      refine lv_iload_n C0.1 C0.2.1 dL_law_27 rfl (lv_at Lc 3 rfl) ?_
      refine l_sld (st := []) C0 (show i < L by omega) (by omega) rfl dL_law_28 ?_ H locs Wd
      intro H locs Wd
      refine lv_bipush (v := 31) C0.1 C0.2.1 dL_law_29 (by decide) ?_
      refine lv_iand C0.1 C0.2.1 dL_law_31 ?_
      refine l_switch C0 hL hK Lc hi hR ?_ (xs i) H locs Wd
      intro h' hR' H locs Wd
      refine lv_iinc (v := nI (i + 4)) (lv' := [(3, .int (nI (i + 4))), (0, .ref b), (1, .ref (ad 0)), (2, .ref (ad 30))]) C0.1 C0.2.1 dL_law_826 Lc (k := 3) rfl (nI_add i 4) (by decide) rfl (fun lsc' Lc' => ?_)
      refine lv_goto (tgt := 18) C0.1 C0.2.1 dL_law_829 (by decide) ?_
      exact ih (i + 4) lsc' h' (by omega) hi (lv_sub Lc' [1, 2, 3, 0] rfl) hR' H locs Wd
end LL
/-! the heap behind the two constructors -/
def f7 : Nat → Option Nat := fun j => if j = 1 then some 26 else if j = 0 then some 22 else none
def z0 : Nat → Nat := fun _ => 0
def hIL : List x_E := [x_x, x_dy 0, x_sg z0, x_stK 4 5 6 9 0 0, x_na 6 z0, x_na 6 z0, x_za 6 z0, .inl (3, 2, .inr (.inr (.inr (.inr f7)))), x_za 2 z0, x_bd0 9 0 0 0 0 0, x_sr 0 0 0 0, x_bd0 9 0 0 0 0 0, x_na 4 z0, x_na 4 z0, x_na 8 z0, x_na 4 z0, x_na 4 z0, x_na 41 z0, x_na 41 z0, x_oa 40 (fun _ => some 0), x_ia 6 (fun _ => nI 0), x_la 12 (fun _ => lN 0), x_stK 23 24 25 9 0 0, x_na 6 z0, x_na 6 z0, x_za 6 z0, x_stK 27 28 29 9 0 0, x_na 6 z0, x_na 6 z0, x_za 6 z0,
  x_md 9 0 0 0 0 0 0 0 0 0 0 0 0, x_na 6 z0, x_na 6 z0, x_na 6 z0, x_sg z0, x_na 11 z0, x_na 11 z0, x_ia 41 (fun _ => nI 0), x_na 8 z0, x_za 41 z0, x_na 6 z0, x_na 60 z0, x_za 2 z0]
def hI : x_H := fun k => hIL.getD k (x_dy 0)
def sg0 : Sg := (9, 0, 0, z0, z0, z0)
theorem ok0 : okSg sg0 := ⟨by decide, by decide, by decide, by decide, fun _ => by show 0 ≤ 40; decide, fun _ => by show 0 < 8; decide, fun _ => by show 0 ≤ 1; decide⟩
theorem okD0 : okD 0 z0 := ⟨by decide, fun _ => by show 0 < 127; decide⟩
set_option maxRecDepth 100000 in
theorem RX_0 : RX hI := by
  refine ⟨(0, z0), sg0, sg0, z0, z0, sg0, sg0, ?_, ?_, ?_, ?_, ?_⟩
  · refine ⟨rfl, ⟨rfl, rfl, okD0⟩, ⟨⟨rfl, rfl, rfl, rfl⟩, ok0⟩, ⟨f7, rfl, rfl, rfl⟩, ⟨rfl, fun _ => Nat.zero_le _⟩, ⟨9, 0, 0, 0, 0, 0, rfl⟩, ?_, ⟨fun _ => nI 0, rfl⟩, ⟨fun _ => lN 0, rfl⟩, ⟨⟨rfl, rfl, rfl, rfl⟩, ok0⟩, ⟨⟨rfl, rfl, rfl, rfl⟩, ok0⟩⟩
    exact ⟨false, 0, 0, 0, 9, 0, 0, 0, 0, 0, z0, z0, z0, z0, z0, z0, z0, fun _ => some 0, rfl, rfl, rfl, rfl, rfl, rfl, rfl, rfl, rfl, rfl, fun _ => by show 0 < 256; decide, fun _ => by show 0 < 256; decide, fun j q hq => by cases hq; decide, fun _ => by show 0 < 8; decide, by decide, by decide, fun hf => Bool.noConfusion hf⟩
  · exact ⟨ok0, okD0, fun _ => Nat.zero_le _, 0, 0, 0, 0, 0, 0, 0, 0, 0, z0, z0, fun _ => nI 0, z0, z0, z0, rfl, ⟨rfl, rfl, rfl⟩, rfl, ⟨rfl, rfl⟩, rfl, ⟨rfl, rfl⟩, rfl, rfl, rfl, fun _ => by show 0 < 1000; decide, fun _ => by show 0 < 64; decide, fun _ => Nat.zero_le _⟩
  · exact ⟨rfl, rfl, rfl, fun _ _ => ⟨rfl, rfl, rfl⟩⟩
  · exact fun hk => absurd rfl hk
  · exact fun hk => absurd rfl hk
def adI (q0 : Nat) (u0 : Nat → Nat) (q1 : Nat) (u1 : Nat → Nat) : Nat → Nat := fun k => [q0, u0 0, u0 1, u0 2, u0 3, u0 4, u0 5, u0 6, u0 7, u0 8, u0 9, u0 10, u0 11, u0 12, u0 13, u0 14, u0 15, u0 16, u0 17, u0 18, u0 19, u0 20, u0 21, u0 22, u0 23, u0 24, u0 25, u0 26, u0 27, u0 28, q1, u1 0, u1 1, u1 2, u1 3, u1 4, u1 5, u1 6, u1 7, u1 8, u1 9, u1 10, u1 11].getD k 0
theorem im_eq (a b : Nat) (ad : Nat → Nat) (h22 : ad 22 = a) (h26 : ad 26 = b) : (fun j => (f7 j).map ad) = va_up (va_up (fun _ => none) (Int32.toNatClampNeg 0) (some a)) (Int32.toNatClampNeg 1) (some b) := by
  funext j
  have e0 : Int32.toNatClampNeg 0 = 0 := by decide
  have e1 : Int32.toNatClampNeg 1 = 1 := by decide
  rw [e0, e1]
  unfold va_up f7
  by_cases h1 : j = 1
  · rw [if_pos h1, if_pos h1, Option.map_some, h26]
  · rw [if_neg h1, if_neg h1]
    by_cases h0 : j = 0
    · rw [if_pos h0, if_pos h0, Option.map_some, h22]
    · rw [if_neg h0, if_neg h0, Option.map_none]
theorem x_w43 (dA : Nat → ClassId) (ad : Nat → Nat) (h : x_H) : x_w dA ad h = [(ad 0, x_c dA ad (h 0)), (ad 1, x_c dA ad (h 1)), (ad 2, x_c dA ad (h 2)), (ad 3, x_c dA ad (h 3)), (ad 4, x_c dA ad (h 4)), (ad 5, x_c dA ad (h 5)), (ad 6, x_c dA ad (h 6)), (ad 7, x_c dA ad (h 7)), (ad 8, x_c dA ad (h 8)), (ad 9, x_c dA ad (h 9)), (ad 10, x_c dA ad (h 10)), (ad 11, x_c dA ad (h 11)), (ad 12, x_c dA ad (h 12)), (ad 13, x_c dA ad (h 13)), (ad 14, x_c dA ad (h 14)), (ad 15, x_c dA ad (h 15)), (ad 16, x_c dA ad (h 16)), (ad 17, x_c dA ad (h 17)), (ad 18, x_c dA ad (h 18)), (ad 19, x_c dA ad (h 19)), (ad 20, x_c dA ad (h 20)), (ad 21, x_c dA ad (h 21)), (ad 22, x_c dA ad (h 22)), (ad 23, x_c dA ad (h 23)), (ad 24, x_c dA ad (h 24)), (ad 25, x_c dA ad (h 25)), (ad 26, x_c dA ad (h 26)), (ad 27, x_c dA ad (h 27)), (ad 28, x_c dA ad (h 28)), (ad 29, x_c dA ad (h 29)), (ad 30, x_c dA ad (h 30)), (ad 31, x_c dA ad (h 31)), (ad 32, x_c dA ad (h 32)), (ad 33, x_c dA ad (h 33)), (ad 34, x_c dA ad (h 34)), (ad 35, x_c dA ad (h 35)), (ad 36, x_c dA ad (h 36)), (ad 37, x_c dA ad (h 37)), (ad 38, x_c dA ad (h 38)), (ad 39, x_c dA ad (h 39)), (ad 40, x_c dA ad (h 40)), (ad 41, x_c dA ad (h 41)), (ad 42, x_c dA ad (h 42))] := rfl
set_option maxRecDepth 100000 in
set_option maxHeartbeats 4000000 in
theorem w_eq (dA : Nat → ClassId) (q0 : Nat) (u0 : Nat → Nat) (q1 : Nat) (u1 : Nat → Nat) : x_w dA (adI q0 u0 q1 u1) hI = wX4 dA q0 u0 ++ wX5 dA q1 u1 := by
  have e7 : x_c dA (adI q0 u0 q1 u1) (hI 7) = .inl (dA 3, 2, .inr (.inr (.inr (.inr (va_up (va_up (fun _ => none) (Int32.toNatClampNeg 0) (some (u0 21))) (Int32.toNatClampNeg 1) (some (u0 25))))))) := by
    rw [← im_eq (u0 21) (u0 25) (adI q0 u0 q1 u1) rfl rfl]
    rfl
  rw [x_w43, e7]
  rfl
