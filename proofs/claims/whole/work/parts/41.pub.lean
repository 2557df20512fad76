/-! the public methods of the class, those that only ask -/
theorem i_lt {x c : Int32} {k : Int} (hk : c.toInt = k) : x < c ↔ x.toInt < k := by rw [Int32.lt_iff_toInt_lt, hk]
theorem i_gt {x c : Int32} {k : Int} (hk : c.toInt = k) : c < x ↔ k < x.toInt := by rw [Int32.lt_iff_toInt_lt, hk]
theorem i_le {x c : Int32} {k : Int} (hk : c.toInt = k) : x ≤ c ↔ x.toInt ≤ k := by rw [Int32.le_iff_toInt_le, hk]
theorem i_ge {x c : Int32} {k : Int} (hk : c.toInt = k) : c ≤ x ↔ k ≤ x.toInt := by rw [Int32.le_iff_toInt_le, hk]
theorem i_nat {x : Int32} (h : 0 ≤ x.toInt) : x = nI x.toInt.toNat ∧ x.toInt.toNat < 2 ^ 31 := by
  have h0 : ¬ x < 0 := fun q => by have := (i_lt (k := 0) rfl).mp q; omega
  obtain ⟨j, hj, rfl⟩ := nI_of h0
  rw [nI_toInt hj]
  exact ⟨rfl, by omega⟩
def Bq (h h' : x_H) : Prop := ∃ (i1 i2 : Int32) (l1 l2 l3 l4 : Int64), h' = x_up h 9 (x_bd0 i1 i2 l1 l2 l3 l4)
theorem Bq_rf {h : x_H} {i1 i2 : Int32} {l1 l2 l3 l4 : Int64} (hB : h 9 = x_bd0 i1 i2 l1 l2 l3 l4) : Bq h h := ⟨i1, i2, l1, l2, l3, l4, (x_up_eta hB).symm⟩
theorem Bq_up {h : x_H} {i1 i2 : Int32} {l1 l2 l3 l4 : Int64} : Bq h (x_up h 9 (x_bd0 i1 i2 l1 l2 l3 l4)) := ⟨i1, i2, l1, l2, l3, l4, rfl⟩
def gd (r x : Int32) : Int32 := if r = 0 then x else r
set_option maxRecDepth 100000 in
set_option maxHeartbeats 4000000 in
theorem cX_fault (d : Nat) (h : x_H) {n : Nat} {cs : Nat → Nat} (hX : h 0 = x_x) (hD : h 1 = x_dy n) (hG : h 2 = x_sg cs) (hok : okD n cs) : x_Ct (d + 3) mX4_fault [.ref 0] h (fun r h' => r = some (.int (fI (ff n cs))) ∧ h' = h) := by
  refine x_enter pnX4_fault (Nat.le_of_ble_eq_true rfl) ?_
  refine x_aload_n (i := 0) dX4_fault_0 rfl rfl ?_
  refine x_get flX4_12 dX4_fault_1 (by first | decide | assumption) (by first | assumption | exact x_up_s | (refine (x_up_n (by first | decide | assumption)).trans ?_; first | assumption | exact x_up_s | (refine (x_up_n (by first | decide | assumption)).trans ?_; first | assumption | exact x_up_s | (refine (x_up_n (by first | decide | assumption)).trans ?_; first | assumption | exact x_up_s | (refine (x_up_n (by first | decide | assumption)).trans ?_; first | assumption | exact x_up_s | (refine (x_up_n (by first | decide | assumption)).trans ?_; first | assumption | exact x_up_s | (refine (x_up_n (by first | decide | assumption)).trans ?_; first | assumption | exact x_up_s | (refine (x_up_n (by first | decide | assumption)).trans ?_; first | assumption | exact x_up_s | (refine (x_up_n (by first | decide | assumption)).trans ?_; first | assumption | exact x_up_s | (refine (x_up_n (by first | decide | assumption)).trans ?_; first | assumption | exact x_up_s | (refine (x_up_n (by first | decide | assumption)).trans ?_; first | assumption | exact x_up_s | (refine (x_up_n (by first | decide | assumption)).trans ?_; first | assumption | exact x_up_s | (refine (x_up_n (by first | decide | assumption)).trans ?_; first | assumption | exact x_up_s | (refine (x_up_n (by first | decide | assumption)).trans ?_; first | assumption | exact x_up_s)))))))))))))) rfl ?_
  refine x_invV clX4_75 dX4_fault_4 (cD_firstFault d h hD hG hok) (by omega) rfl (by first | decide | assumption) (by first | assumption | exact x_up_s | (refine (x_up_n (by first | decide | assumption)).trans ?_; first | assumption | exact x_up_s | (refine (x_up_n (by first | decide | assumption)).trans ?_; first | assumption | exact x_up_s | (refine (x_up_n (by first | decide | assumption)).trans ?_; first | assumption | exact x_up_s | (refine (x_up_n (by first | decide | assumption)).trans ?_; first | assumption | exact x_up_s | (refine (x_up_n (by first | decide | assumption)).trans ?_; first | assumption | exact x_up_s | (refine (x_up_n (by first | decide | assumption)).trans ?_; first | assumption | exact x_up_s | (refine (x_up_n (by first | decide | assumption)).trans ?_; first | assumption | exact x_up_s | (refine (x_up_n (by first | decide | assumption)).trans ?_; first | assumption | exact x_up_s | (refine (x_up_n (by first | decide | assumption)).trans ?_; first | assumption | exact x_up_s | (refine (x_up_n (by first | decide | assumption)).trans ?_; first | assumption | exact x_up_s | (refine (x_up_n (by first | decide | assumption)).trans ?_; first | assumption | exact x_up_s | (refine (x_up_n (by first | decide | assumption)).trans ?_; first | assumption | exact x_up_s | (refine (x_up_n (by first | decide | assumption)).trans ?_; first | assumption | exact x_up_s)))))))))))))) rfl (Nat.le_of_ble_eq_true rfl) ?_
  rintro r h' ⟨rfl, rfl⟩
  refine x_iret dX4_fault_7 rfl ⟨rfl, rfl⟩
def aStT (n : Nat) (e : Int32) : Nat := if e = -1 then n else e.toInt.toNat
def aStands (n : Nat) (cs : Nat → Nat) (L w : Nat) (e p : Int32) : Int32 :=
  if 0 ≤ p.toInt ∧ p.toInt < 9 ∧ -1 ≤ e.toInt ∧ e.toInt ≤ n then gd (rfs n cs (aStT n e)) (fI (bat (bdR w L cs (aStT n e)) p.toInt.toNat)) else -2
set_option maxRecDepth 100000 in
set_option maxHeartbeats 4000000 in
theorem cX_stands (d : Nat) (h : x_H) {n : Nat} {cs : Nat → Nat} (hX : h 0 = x_x) (hD : h 1 = x_dy n) (hG : h 2 = x_sg cs) (hok : okD n cs) {L w q : Nat} (hS : h 3 = x_st L w q) (hL1 : 1 ≤ L) (hL9 : L ≤ 9) (hw : w ≤ 2) {i1 i2 : Int32} {l1 l2 l3 l4 : Int64} (hB : h 9 = x_bd0 i1 i2 l1 l2 l3 l4) (e p : Int32) : x_Ct (d + 5) mX4_stands [.ref 0, .int e, .int p] h (fun r h' => r = some (.int (aStands n cs L w e p)) ∧ Bq h h') := by
  have hn := hok.1
  -- from 46 on
  have tail : 0 ≤ p.toInt → p.toInt < 9 → -1 ≤ e.toInt → e.toInt ≤ n → ∀ t : Nat, t = aStT n e → t ≤ n → x_V (d + 5) mX4_stands 45 (x_ls [some (.ref 0), some (.int e), some (.int p)]) [.int (nI t)] h (fun r h' => r = some (.int (aStands n cs L w e p)) ∧ Bq h h') := by
    intro p0 p9 e0 en t et htn
    have hspec : aStands n cs L w e p = gd (rfs n cs t) (fI (bat (bdR w L cs t) p.toInt.toNat)) := by
      unfold aStands
      rw [if_pos ⟨p0, p9, e0, en⟩, ← et]
    rw [hspec]
    obtain ⟨ep, hp31⟩ := i_nat p0
    generalize p.toInt.toNat = pn at ep hp31
    have hp8 : pn ≤ 8 := by rw [ep, nI_toInt hp31] at p9; omega
    subst ep
    have hb := okB_bdR (w := w) (cs := cs) hL1 hL9 (j := t) (by omega)
    refine x_istore_n (i := 3) dX4_stands_45 rfl (by decide) ?_
    refine x_aload_n (i := 0) dX4_stands_46 rfl rfl ?_
    refine x_iload_n (i := 3) dX4_stands_47 rfl rfl ?_
    refine x_invV clX4_79 dX4_stands_48 (cX_refusalWithin d h hX hD hG hok t htn) (by omega) rfl (by first | decide | assumption) (by first | assumption | exact x_up_s | (refine (x_up_n (by first | decide | assumption)).trans ?_; first | assumption | exact x_up_s | (refine (x_up_n (by first | decide | assumption)).trans ?_; first | assumption | exact x_up_s | (refine (x_up_n (by first | decide | assumption)).trans ?_; first | assumption | exact x_up_s | (refine (x_up_n (by first | decide | assumption)).trans ?_; first | assumption | exact x_up_s | (refine (x_up_n (by first | decide | assumption)).trans ?_; first | assumption | exact x_up_s | (refine (x_up_n (by first | decide | assumption)).trans ?_; first | assumption | exact x_up_s | (refine (x_up_n (by first | decide | assumption)).trans ?_; first | assumption | exact x_up_s | (refine (x_up_n (by first | decide | assumption)).trans ?_; first | assumption | exact x_up_s | (refine (x_up_n (by first | decide | assumption)).trans ?_; first | assumption | exact x_up_s | (refine (x_up_n (by first | decide | assumption)).trans ?_; first | assumption | exact x_up_s | (refine (x_up_n (by first | decide | assumption)).trans ?_; first | assumption | exact x_up_s | (refine (x_up_n (by first | decide | assumption)).trans ?_; first | assumption | exact x_up_s | (refine (x_up_n (by first | decide | assumption)).trans ?_; first | assumption | exact x_up_s)))))))))))))) rfl (Nat.le_of_ble_eq_true rfl) ?_
    rintro r h' ⟨rfl, rfl⟩
    refine x_istore dX4_stands_51 (by decide) ?_
    refine x_iload dX4_stands_53 rfl ?_
    refine x_if_eq 61 dX4_stands_55 (by decide) (fun hc => ?_) (fun hc => ?_)
    · rw [hc]
      refine x_aload_n (i := 0) dX4_stands_61 rfl rfl ?_
      refine x_iload_n (i := 3) dX4_stands_62 rfl rfl ?_
      refine x_aload_n (i := 0) dX4_stands_63 rfl rfl ?_
      refine x_get flX4_19 dX4_stands_64 (by first | decide | assumption) (by first | assumption | exact x_up_s | (refine (x_up_n (by first | decide | assumption)).trans ?_; first | assumption | exact x_up_s | (refine (x_up_n (by first | decide | assumption)).trans ?_; first | assumption | exact x_up_s | (refine (x_up_n (by first | decide | assumption)).trans ?_; first | assumption | exact x_up_s | (refine (x_up_n (by first | decide | assumption)).trans ?_; first | assumption | exact x_up_s | (refine (x_up_n (by first | decide | assumption)).trans ?_; first | assumption | exact x_up_s | (refine (x_up_n (by first | decide | assumption)).trans ?_; first | assumption | exact x_up_s | (refine (x_up_n (by first | decide | assumption)).trans ?_; first | assumption | exact x_up_s | (refine (x_up_n (by first | decide | assumption)).trans ?_; first | assumption | exact x_up_s | (refine (x_up_n (by first | decide | assumption)).trans ?_; first | assumption | exact x_up_s | (refine (x_up_n (by first | decide | assumption)).trans ?_; first | assumption | exact x_up_s | (refine (x_up_n (by first | decide | assumption)).trans ?_; first | assumption | exact x_up_s | (refine (x_up_n (by first | decide | assumption)).trans ?_; first | assumption | exact x_up_s | (refine (x_up_n (by first | decide | assumption)).trans ?_; first | assumption | exact x_up_s)))))))))))))) rfl ?_
      refine x_get flX4_57 dX4_stands_67 (by first | decide | assumption) (by first | assumption | exact x_up_s | (refine (x_up_n (by first | decide | assumption)).trans ?_; first | assumption | exact x_up_s | (refine (x_up_n (by first | decide | assumption)).trans ?_; first | assumption | exact x_up_s | (refine (x_up_n (by first | decide | assumption)).trans ?_; first | assumption | exact x_up_s | (refine (x_up_n (by first | decide | assumption)).trans ?_; first | assumption | exact x_up_s | (refine (x_up_n (by first | decide | assumption)).trans ?_; first | assumption | exact x_up_s | (refine (x_up_n (by first | decide | assumption)).trans ?_; first | assumption | exact x_up_s | (refine (x_up_n (by first | decide | assumption)).trans ?_; first | assumption | exact x_up_s | (refine (x_up_n (by first | decide | assumption)).trans ?_; first | assumption | exact x_up_s | (refine (x_up_n (by first | decide | assumption)).trans ?_; first | assumption | exact x_up_s | (refine (x_up_n (by first | decide | assumption)).trans ?_; first | assumption | exact x_up_s | (refine (x_up_n (by first | decide | assumption)).trans ?_; first | assumption | exact x_up_s | (refine (x_up_n (by first | decide | assumption)).trans ?_; first | assumption | exact x_up_s | (refine (x_up_n (by first | decide | assumption)).trans ?_; first | assumption | exact x_up_s)))))))))))))) rfl ?_
      refine x_invV clX4_83 dX4_stands_70 (cX_runDay d h' hX hD hG hok hS hL1 hL9 hw hB L t hL1 hL9 htn) (by omega) rfl (by first | decide | assumption) (by first | assumption | exact x_up_s | (refine (x_up_n (by first | decide | assumption)).trans ?_; first | assumption | exact x_up_s | (refine (x_up_n (by first | decide | assumption)).trans ?_; first | assumption | exact x_up_s | (refine (x_up_n (by first | decide | assumption)).trans ?_; first | assumption | exact x_up_s | (refine (x_up_n (by first | decide | assumption)).trans ?_; first | assumption | exact x_up_s | (refine (x_up_n (by first | decide | assumption)).trans ?_; first | assumption | exact x_up_s | (refine (x_up_n (by first | decide | assumption)).trans ?_; first | assumption | exact x_up_s | (refine (x_up_n (by first | decide | assumption)).trans ?_; first | assumption | exact x_up_s | (refine (x_up_n (by first | decide | assumption)).trans ?_; first | assumption | exact x_up_s | (refine (x_up_n (by first | decide | assumption)).trans ?_; first | assumption | exact x_up_s | (refine (x_up_n (by first | decide | assumption)).trans ?_; first | assumption | exact x_up_s | (refine (x_up_n (by first | decide | assumption)).trans ?_; first | assumption | exact x_up_s | (refine (x_up_n (by first | decide | assumption)).trans ?_; first | assumption | exact x_up_s | (refine (x_up_n (by first | decide | assumption)).trans ?_; first | assumption | exact x_up_s)))))))))))))) rfl (Nat.le_of_ble_eq_true rfl) ?_
      rintro r h'' ⟨rfl, rfl⟩
      refine x_aload_n (i := 0) dX4_stands_73 rfl rfl ?_
      refine x_get flX4_34 dX4_stands_74 (by first | decide | assumption) (by first | assumption | exact x_up_s | (refine (x_up_n (by first | decide | assumption)).trans ?_; first | assumption | exact x_up_s | (refine (x_up_n (by first | decide | assumption)).trans ?_; first | assumption | exact x_up_s | (refine (x_up_n (by first | decide | assumption)).trans ?_; first | assumption | exact x_up_s | (refine (x_up_n (by first | decide | assumption)).trans ?_; first | assumption | exact x_up_s | (refine (x_up_n (by first | decide | assumption)).trans ?_; first | assumption | exact x_up_s | (refine (x_up_n (by first | decide | assumption)).trans ?_; first | assumption | exact x_up_s | (refine (x_up_n (by first | decide | assumption)).trans ?_; first | assumption | exact x_up_s | (refine (x_up_n (by first | decide | assumption)).trans ?_; first | assumption | exact x_up_s | (refine (x_up_n (by first | decide | assumption)).trans ?_; first | assumption | exact x_up_s | (refine (x_up_n (by first | decide | assumption)).trans ?_; first | assumption | exact x_up_s | (refine (x_up_n (by first | decide | assumption)).trans ?_; first | assumption | exact x_up_s | (refine (x_up_n (by first | decide | assumption)).trans ?_; first | assumption | exact x_up_s | (refine (x_up_n (by first | decide | assumption)).trans ?_; first | assumption | exact x_up_s)))))))))))))) rfl ?_
      refine x_iload_n (i := 2) dX4_stands_77 rfl rfl ?_
      refine x_invV clX4_87 dX4_stands_78 (cB_nameAt d 9 (by decide) _ x_up_s hb pn hp8) (by omega) rfl (by first | decide | assumption) (by first | assumption | exact x_up_s | (refine (x_up_n (by first | decide | assumption)).trans ?_; first | assumption | exact x_up_s | (refine (x_up_n (by first | decide | assumption)).trans ?_; first | assumption | exact x_up_s | (refine (x_up_n (by first | decide | assumption)).trans ?_; first | assumption | exact x_up_s | (refine (x_up_n (by first | decide | assumption)).trans ?_; first | assumption | exact x_up_s | (refine (x_up_n (by first | decide | assumption)).trans ?_; first | assumption | exact x_up_s | (refine (x_up_n (by first | decide | assumption)).trans ?_; first | assumption | exact x_up_s | (refine (x_up_n (by first | decide | assumption)).trans ?_; first | assumption | exact x_up_s | (refine (x_up_n (by first | decide | assumption)).trans ?_; first | assumption | exact x_up_s | (refine (x_up_n (by first | decide | assumption)).trans ?_; first | assumption | exact x_up_s | (refine (x_up_n (by first | decide | assumption)).trans ?_; first | assumption | exact x_up_s | (refine (x_up_n (by first | decide | assumption)).trans ?_; first | assumption | exact x_up_s | (refine (x_up_n (by first | decide | assumption)).trans ?_; first | assumption | exact x_up_s | (refine (x_up_n (by first | decide | assumption)).trans ?_; first | assumption | exact x_up_s)))))))))))))) rfl (Nat.le_of_ble_eq_true rfl) ?_
      rintro r h'' ⟨rfl, rfl⟩
      cases hbt : bat (bdR w L cs t) pn with
      | none =>
        refine x_istore dX4_stands_81 (by decide) ?_
        refine x_iload dX4_stands_83 rfl ?_
        refine x_iconst (v := (-1)) dX4_stands_85 (by decide) ?_
        refine x_icmp_ne 94 dX4_stands_86 (by decide) (fun hc => absurd (rfl) hc) (fun _ => ?_)
        refine x_bipush (v := (-6)) dX4_stands_89 (by decide) ?_
        refine x_goto 96 dX4_stands_91 (by decide) ?_
        refine x_iret dX4_stands_96 rfl ⟨rfl, Bq_up⟩
      | some q =>
        have hq : q ≤ 8 := by
          unfold bat at hbt
          obtain ⟨z, hz, rfl⟩ := Option.map_eq_some_iff.mp hbt
          exact (hb.2.2.2 z (List.mem_of_getElem? hz)).1
        refine x_istore dX4_stands_81 (by decide) ?_
        refine x_iload dX4_stands_83 rfl ?_
        refine x_iconst (v := (-1)) dX4_stands_85 (by decide) ?_
        refine x_icmp_ne 94 dX4_stands_86 (by decide) (fun _ => ?_) (fun hc => absurd hc (nI_neg1 (by omega)))
        refine x_iload dX4_stands_94 rfl ?_
        refine x_iret dX4_stands_96 rfl ⟨rfl, Bq_up⟩
    · refine x_iload dX4_stands_58 rfl ?_
      refine x_iret dX4_stands_60 rfl ⟨by unfold gd; rw [if_neg hc], Bq_rf hB⟩
  have bad : ¬ (0 ≤ p.toInt ∧ p.toInt < 9 ∧ -1 ≤ e.toInt ∧ e.toInt ≤ n) → x_V (d + 5) mX4_stands 26 (x_ls [some (.ref 0), some (.int e), some (.int p)]) [] h (fun r h' => r = some (.int (aStands n cs L w e p)) ∧ Bq h h') := by
    intro hno
    refine x_bipush (v := (-2)) dX4_stands_26 (by decide) ?_
    refine x_iret dX4_stands_28 rfl ⟨by unfold aStands; rw [if_neg hno], Bq_rf hB⟩
  refine x_enter pnX4_stands (Nat.le_of_ble_eq_true rfl) ?_
  refine x_iload_n (i := 2) dX4_stands_0 rfl rfl ?_
  refine x_if_lt 26 dX4_stands_1 (by decide) (fun h1 => ?_) (fun h1 => ?_)
  · exact x_wk (bad (fun q => by have := (i_lt (k := 0) rfl).mp h1; omega)) ⟨rfl, rfl, rfl, trivial⟩
  · have p0 : 0 ≤ p.toInt := by have := mt (i_lt (k := 0) rfl).mpr h1; omega
    refine x_iload_n (i := 2) dX4_stands_4 rfl rfl ?_
    refine x_bipush (v := 9) dX4_stands_5 (by decide) ?_
    refine x_icmp_ge 26 dX4_stands_7 (by decide) (fun h2 => ?_) (fun h2 => ?_)
    · exact x_wk (bad (fun q => by have := (i_ge (k := 9) rfl).mp h2; omega)) ⟨rfl, rfl, rfl, trivial⟩
    · have p9 : p.toInt < 9 := by have := mt (i_ge (k := 9) rfl).mpr h2; omega
      refine x_iload_n (i := 1) dX4_stands_10 rfl rfl ?_
      refine x_iconst (v := (-1)) dX4_stands_11 (by decide) ?_
      refine x_icmp_lt 26 dX4_stands_12 (by decide) (fun h3 => ?_) (fun h3 => ?_)
      · exact x_wk (bad (fun q => by have := (i_lt (k := -1) rfl).mp h3; omega)) ⟨rfl, rfl, rfl, trivial⟩
      · have e0 : -1 ≤ e.toInt := by have := mt (i_lt (k := -1) rfl).mpr h3; omega
        refine x_iload_n (i := 1) dX4_stands_15 rfl rfl ?_
        refine x_aload_n (i := 0) dX4_stands_16 rfl rfl ?_
        refine x_get flX4_12 dX4_stands_17 (by first | decide | assumption) (by first | assumption | exact x_up_s | (refine (x_up_n (by first | decide | assumption)).trans ?_; first | assumption | exact x_up_s | (refine (x_up_n (by first | decide | assumption)).trans ?_; first | assumption | exact x_up_s | (refine (x_up_n (by first | decide | assumption)).trans ?_; first | assumption | exact x_up_s | (refine (x_up_n (by first | decide | assumption)).trans ?_; first | assumption | exact x_up_s | (refine (x_up_n (by first | decide | assumption)).trans ?_; first | assumption | exact x_up_s | (refine (x_up_n (by first | decide | assumption)).trans ?_; first | assumption | exact x_up_s | (refine (x_up_n (by first | decide | assumption)).trans ?_; first | assumption | exact x_up_s | (refine (x_up_n (by first | decide | assumption)).trans ?_; first | assumption | exact x_up_s | (refine (x_up_n (by first | decide | assumption)).trans ?_; first | assumption | exact x_up_s | (refine (x_up_n (by first | decide | assumption)).trans ?_; first | assumption | exact x_up_s | (refine (x_up_n (by first | decide | assumption)).trans ?_; first | assumption | exact x_up_s | (refine (x_up_n (by first | decide | assumption)).trans ?_; first | assumption | exact x_up_s | (refine (x_up_n (by first | decide | assumption)).trans ?_; first | assumption | exact x_up_s)))))))))))))) rfl ?_
        refine x_get flX4_68 dX4_stands_20 (by first | decide | assumption) (by first | assumption | exact x_up_s | (refine (x_up_n (by first | decide | assumption)).trans ?_; first | assumption | exact x_up_s | (refine (x_up_n (by first | decide | assumption)).trans ?_; first | assumption | exact x_up_s | (refine (x_up_n (by first | decide | assumption)).trans ?_; first | assumption | exact x_up_s | (refine (x_up_n (by first | decide | assumption)).trans ?_; first | assumption | exact x_up_s | (refine (x_up_n (by first | decide | assumption)).trans ?_; first | assumption | exact x_up_s | (refine (x_up_n (by first | decide | assumption)).trans ?_; first | assumption | exact x_up_s | (refine (x_up_n (by first | decide | assumption)).trans ?_; first | assumption | exact x_up_s | (refine (x_up_n (by first | decide | assumption)).trans ?_; first | assumption | exact x_up_s | (refine (x_up_n (by first | decide | assumption)).trans ?_; first | assumption | exact x_up_s | (refine (x_up_n (by first | decide | assumption)).trans ?_; first | assumption | exact x_up_s | (refine (x_up_n (by first | decide | assumption)).trans ?_; first | assumption | exact x_up_s | (refine (x_up_n (by first | decide | assumption)).trans ?_; first | assumption | exact x_up_s | (refine (x_up_n (by first | decide | assumption)).trans ?_; first | assumption | exact x_up_s)))))))))))))) rfl ?_
        refine x_icmp_le 29 dX4_stands_23 (by decide) (fun h4 => ?_) (fun h4 => ?_)
        · have en : e.toInt ≤ n := (i_le (nI_toInt (by omega))).mp h4
          refine x_iload_n (i := 1) dX4_stands_29 rfl rfl ?_
          refine x_iconst (v := (-1)) dX4_stands_30 (by decide) ?_
          refine x_icmp_ne 44 dX4_stands_31 (by decide) (fun h5 => ?_) (fun h5 => ?_)
          · have e1 : 0 ≤ e.toInt := by
              rcases Int.lt_or_le e.toInt 0 with q | q
              · exact absurd (Int32.toInt_inj.mp (by have : e.toInt = -1 := by omega
                                                     exact this)) h5
              · exact q
            obtain ⟨ee, he31⟩ := i_nat e1
            refine x_iload_n (i := 1) dX4_stands_44 rfl rfl ?_
            refine x_topi ee ?_
            exact x_wk (tail p0 p9 e0 en e.toInt.toNat (by unfold aStT; rw [if_neg h5]) (by omega)) ⟨rfl, rfl, rfl, trivial⟩
          · refine x_aload_n (i := 0) dX4_stands_34 rfl rfl ?_
            refine x_get flX4_12 dX4_stands_35 (by first | decide | assumption) (by first | assumption | exact x_up_s | (refine (x_up_n (by first | decide | assumption)).trans ?_; first | assumption | exact x_up_s | (refine (x_up_n (by first | decide | assumption)).trans ?_; first | assumption | exact x_up_s | (refine (x_up_n (by first | decide | assumption)).trans ?_; first | assumption | exact x_up_s | (refine (x_up_n (by first | decide | assumption)).trans ?_; first | assumption | exact x_up_s | (refine (x_up_n (by first | decide | assumption)).trans ?_; first | assumption | exact x_up_s | (refine (x_up_n (by first | decide | assumption)).trans ?_; first | assumption | exact x_up_s | (refine (x_up_n (by first | decide | assumption)).trans ?_; first | assumption | exact x_up_s | (refine (x_up_n (by first | decide | assumption)).trans ?_; first | assumption | exact x_up_s | (refine (x_up_n (by first | decide | assumption)).trans ?_; first | assumption | exact x_up_s | (refine (x_up_n (by first | decide | assumption)).trans ?_; first | assumption | exact x_up_s | (refine (x_up_n (by first | decide | assumption)).trans ?_; first | assumption | exact x_up_s | (refine (x_up_n (by first | decide | assumption)).trans ?_; first | assumption | exact x_up_s | (refine (x_up_n (by first | decide | assumption)).trans ?_; first | assumption | exact x_up_s)))))))))))))) rfl ?_
            refine x_get flX4_68 dX4_stands_38 (by first | decide | assumption) (by first | assumption | exact x_up_s | (refine (x_up_n (by first | decide | assumption)).trans ?_; first | assumption | exact x_up_s | (refine (x_up_n (by first | decide | assumption)).trans ?_; first | assumption | exact x_up_s | (refine (x_up_n (by first | decide | assumption)).trans ?_; first | assumption | exact x_up_s | (refine (x_up_n (by first | decide | assumption)).trans ?_; first | assumption | exact x_up_s | (refine (x_up_n (by first | decide | assumption)).trans ?_; first | assumption | exact x_up_s | (refine (x_up_n (by first | decide | assumption)).trans ?_; first | assumption | exact x_up_s | (refine (x_up_n (by first | decide | assumption)).trans ?_; first | assumption | exact x_up_s | (refine (x_up_n (by first | decide | assumption)).trans ?_; first | assumption | exact x_up_s | (refine (x_up_n (by first | decide | assumption)).trans ?_; first | assumption | exact x_up_s | (refine (x_up_n (by first | decide | assumption)).trans ?_; first | assumption | exact x_up_s | (refine (x_up_n (by first | decide | assumption)).trans ?_; first | assumption | exact x_up_s | (refine (x_up_n (by first | decide | assumption)).trans ?_; first | assumption | exact x_up_s | (refine (x_up_n (by first | decide | assumption)).trans ?_; first | assumption | exact x_up_s)))))))))))))) rfl ?_
            refine x_goto 45 dX4_stands_41 (by decide) ?_
            exact x_wk (tail p0 p9 e0 en n (by unfold aStT; rw [if_pos h5]) (by omega)) ⟨rfl, rfl, rfl, trivial⟩
        · exact x_wk (bad (fun q => h4 ((i_le (nI_toInt (by omega))).mpr q.2.2.2))) ⟨rfl, rfl, rfl, trivial⟩
