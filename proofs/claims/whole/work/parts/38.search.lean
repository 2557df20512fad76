/-! a way is counted; all ways are followed -/
def caU (k : Nat) (Wr Ca : Nat → Nat) : Nat → Nat := fun j => if j < k then Ca j ||| 2 ^ Wr j else Ca j
def crU (k cr : Nat) (Cr : Nat → Nat) : Nat → Nat := fun j => if j < k then Cr j + (cr.testBit j).toNat else Cr j
theorem caU_0 (Wr Ca : Nat → Nat) : caU 0 Wr Ca = Ca := by funext j; simp [caU]
theorem crU_0 (cr : Nat) (Cr : Nat → Nat) : crU 0 cr Cr = Cr := by funext j; simp [crU]
theorem caU_s (k : Nat) (Wr Ca : Nat → Nat) : csU (caU k Wr Ca) k (Ca k ||| 2 ^ Wr k) = caU (k + 1) Wr Ca := by
  funext j
  unfold csU caU
  by_cases h : j = k
  · subst h; simp
  · rw [if_neg h]
    by_cases h2 : j < k
    · rw [if_pos h2, if_pos (by omega)]
    · rw [if_neg h2, if_neg (by omega)]
theorem crU_s (k cr : Nat) (Cr : Nat → Nat) : csU (crU k cr Cr) k (Cr k + (cr.testBit k).toNat) = crU (k + 1) cr Cr := by
  funext j
  unfold csU crU
  by_cases h : j = k
  · subst h; simp
  · rw [if_neg h]
    by_cases h2 : j < k
    · rw [if_pos h2, if_pos (by omega)]
    · rw [if_neg h2, if_neg (by omega)]
theorem caU_at (k : Nat) (Wr Ca : Nat → Nat) : caU k Wr Ca k = Ca k := by simp [caU]
theorem crU_at (k cr : Nat) (Cr : Nat → Nat) : crU k cr Cr k = Cr k := by simp [crU]
theorem n_bitN {m p : Nat} (hm : m < 2 ^ 31) (hp : p < 32) : ((nI m).toUInt32 >>> ((nI p).toUInt32 &&& Int32.toUInt32 31)).toInt32 &&& 1 = nI (m.testBit p).toNat := by
  rw [n_bit hm hp]
  cases m.testBit p <;> rfl
set_option maxRecDepth 100000 in
set_option maxHeartbeats 4000000 in
theorem cR_cw2 (d : Nat) (h : x_H) {fr ak ls : Int32} {wy : Nat} (cr : Nat) (hcr : cr < 256) (Cr : Nat → Nat) (hR : h 10 = x_sr fr (nI wy) ak ls) (Q : Option Value → x_H → Prop) (hq : Q none (x_up (x_up h 14 (x_na 8 (crU 8 cr Cr))) 10 (x_sr fr (nI (wy + 1)) ak ls))) :
    ∀ (r k : Nat), k + r = 8 → x_V d mX2_countWay 59 (x_ls [some (.ref 10), some (.int (nI cr)), some (.int (nI k))]) [] (x_up h 14 (x_na 8 (crU k cr Cr))) Q := by
  intro r
  induction r with
  | zero =>
    intro k hk
    have : k = 8 := by omega
    subst this
    refine x_iload_n (i := 2) dX2_countWay_59 rfl rfl ?_
    refine x_bipush (v := 8) dX2_countWay_60 (by decide) ?_
    refine x_icmp_ge 85 dX2_countWay_62 (by decide) (fun _ => ?_) (fun hc => absurd (nI_le (a := 8) (by decide) (by decide)) hc)
    refine x_aload_n (i := 0) dX2_countWay_85 rfl rfl ?_
    refine x_dup dX2_countWay_86 rfl ?_
    refine x_get flX2_22 dX2_countWay_87 (by first | decide | assumption) (by first | assumption | exact x_up_s | (refine (x_up_n (by first | decide | assumption)).trans ?_; first | assumption | exact x_up_s | (refine (x_up_n (by first | decide | assumption)).trans ?_; first | assumption | exact x_up_s | (refine (x_up_n (by first | decide | assumption)).trans ?_; first | assumption | exact x_up_s | (refine (x_up_n (by first | decide | assumption)).trans ?_; first | assumption | exact x_up_s | (refine (x_up_n (by first | decide | assumption)).trans ?_; first | assumption | exact x_up_s | (refine (x_up_n (by first | decide | assumption)).trans ?_; first | assumption | exact x_up_s | (refine (x_up_n (by first | decide | assumption)).trans ?_; first | assumption | exact x_up_s | (refine (x_up_n (by first | decide | assumption)).trans ?_; first | assumption | exact x_up_s | (refine (x_up_n (by first | decide | assumption)).trans ?_; first | assumption | exact x_up_s | (refine (x_up_n (by first | decide | assumption)).trans ?_; first | assumption | exact x_up_s | (refine (x_up_n (by first | decide | assumption)).trans ?_; first | assumption | exact x_up_s | (refine (x_up_n (by first | decide | assumption)).trans ?_; first | assumption | exact x_up_s | (refine (x_up_n (by first | decide | assumption)).trans ?_; first | assumption | exact x_up_s)))))))))))))) rfl ?_
    refine x_iconst (v := 1) dX2_countWay_90 (by decide) ?_
    refine x_iadd dX2_countWay_91 ?_
    refine x_topi (nI_1 wy) ?_
    refine x_put fpX2_22 dX2_countWay_92 (by first | decide | assumption) (by first | assumption | exact x_up_s | (refine (x_up_n (by first | decide | assumption)).trans ?_; first | assumption | exact x_up_s | (refine (x_up_n (by first | decide | assumption)).trans ?_; first | assumption | exact x_up_s | (refine (x_up_n (by first | decide | assumption)).trans ?_; first | assumption | exact x_up_s | (refine (x_up_n (by first | decide | assumption)).trans ?_; first | assumption | exact x_up_s | (refine (x_up_n (by first | decide | assumption)).trans ?_; first | assumption | exact x_up_s | (refine (x_up_n (by first | decide | assumption)).trans ?_; first | assumption | exact x_up_s | (refine (x_up_n (by first | decide | assumption)).trans ?_; first | assumption | exact x_up_s | (refine (x_up_n (by first | decide | assumption)).trans ?_; first | assumption | exact x_up_s | (refine (x_up_n (by first | decide | assumption)).trans ?_; first | assumption | exact x_up_s | (refine (x_up_n (by first | decide | assumption)).trans ?_; first | assumption | exact x_up_s | (refine (x_up_n (by first | decide | assumption)).trans ?_; first | assumption | exact x_up_s | (refine (x_up_n (by first | decide | assumption)).trans ?_; first | assumption | exact x_up_s | (refine (x_up_n (by first | decide | assumption)).trans ?_; first | assumption | exact x_up_s)))))))))))))) rfl rfl (fun _ => rfl) (Nat.le_of_ble_eq_true rfl) rfl ?_
    refine x_vret dX2_countWay_95 rfl hq
  | succ r ih =>
    intro k hk
    refine x_iload_n (i := 2) dX2_countWay_59 rfl rfl ?_
    refine x_bipush (v := 8) dX2_countWay_60 (by decide) ?_
    refine x_icmp_ge 85 dX2_countWay_62 (by decide) (fun hc => absurd hc (nI_ge (b := 8) (by omega) (by decide))) (fun _ => ?_)
    refine x_aload_n (i := 0) dX2_countWay_65 rfl rfl ?_
    refine x_get flX2_33 dX2_countWay_66 (by first | decide | assumption) (by first | assumption | exact x_up_s | (refine (x_up_n (by first | decide | assumption)).trans ?_; first | assumption | exact x_up_s | (refine (x_up_n (by first | decide | assumption)).trans ?_; first | assumption | exact x_up_s | (refine (x_up_n (by first | decide | assumption)).trans ?_; first | assumption | exact x_up_s | (refine (x_up_n (by first | decide | assumption)).trans ?_; first | assumption | exact x_up_s | (refine (x_up_n (by first | decide | assumption)).trans ?_; first | assumption | exact x_up_s | (refine (x_up_n (by first | decide | assumption)).trans ?_; first | assumption | exact x_up_s | (refine (x_up_n (by first | decide | assumption)).trans ?_; first | assumption | exact x_up_s | (refine (x_up_n (by first | decide | assumption)).trans ?_; first | assumption | exact x_up_s | (refine (x_up_n (by first | decide | assumption)).trans ?_; first | assumption | exact x_up_s | (refine (x_up_n (by first | decide | assumption)).trans ?_; first | assumption | exact x_up_s | (refine (x_up_n (by first | decide | assumption)).trans ?_; first | assumption | exact x_up_s | (refine (x_up_n (by first | decide | assumption)).trans ?_; first | assumption | exact x_up_s | (refine (x_up_n (by first | decide | assumption)).trans ?_; first | assumption | exact x_up_s)))))))))))))) rfl ?_
    refine x_iload_n (i := 2) dX2_countWay_69 rfl rfl ?_
    refine x_dup2 dX2_countWay_70 rfl rfl ?_
    refine x_iald k dX2_countWay_71 (by first | decide | assumption) (by first | assumption | exact x_up_s | (refine (x_up_n (by first | decide | assumption)).trans ?_; first | assumption | exact x_up_s | (refine (x_up_n (by first | decide | assumption)).trans ?_; first | assumption | exact x_up_s | (refine (x_up_n (by first | decide | assumption)).trans ?_; first | assumption | exact x_up_s | (refine (x_up_n (by first | decide | assumption)).trans ?_; first | assumption | exact x_up_s | (refine (x_up_n (by first | decide | assumption)).trans ?_; first | assumption | exact x_up_s | (refine (x_up_n (by first | decide | assumption)).trans ?_; first | assumption | exact x_up_s | (refine (x_up_n (by first | decide | assumption)).trans ?_; first | assumption | exact x_up_s | (refine (x_up_n (by first | decide | assumption)).trans ?_; first | assumption | exact x_up_s | (refine (x_up_n (by first | decide | assumption)).trans ?_; first | assumption | exact x_up_s | (refine (x_up_n (by first | decide | assumption)).trans ?_; first | assumption | exact x_up_s | (refine (x_up_n (by first | decide | assumption)).trans ?_; first | assumption | exact x_up_s | (refine (x_up_n (by first | decide | assumption)).trans ?_; first | assumption | exact x_up_s | (refine (x_up_n (by first | decide | assumption)).trans ?_; first | assumption | exact x_up_s)))))))))))))) rfl (by omega) (by decide) ?_
    refine x_iload_n (i := 1) dX2_countWay_72 rfl rfl ?_
    refine x_iload_n (i := 2) dX2_countWay_73 rfl rfl ?_
    refine x_iushr dX2_countWay_74 ?_
    refine x_iconst (v := 1) dX2_countWay_75 (by decide) ?_
    refine x_iand dX2_countWay_76 ?_
    refine x_topi (n_bitN (by omega) (by omega)) ?_
    refine x_iadd dX2_countWay_77 ?_
    refine x_topi (y := nI (Cr k + (cr.testBit k).toNat)) (by rw [crU_at, nI_add]) ?_
    refine x_iast k dX2_countWay_78 (by first | decide | assumption) (by first | assumption | exact x_up_s | (refine (x_up_n (by first | decide | assumption)).trans ?_; first | assumption | exact x_up_s | (refine (x_up_n (by first | decide | assumption)).trans ?_; first | assumption | exact x_up_s | (refine (x_up_n (by first | decide | assumption)).trans ?_; first | assumption | exact x_up_s | (refine (x_up_n (by first | decide | assumption)).trans ?_; first | assumption | exact x_up_s | (refine (x_up_n (by first | decide | assumption)).trans ?_; first | assumption | exact x_up_s | (refine (x_up_n (by first | decide | assumption)).trans ?_; first | assumption | exact x_up_s | (refine (x_up_n (by first | decide | assumption)).trans ?_; first | assumption | exact x_up_s | (refine (x_up_n (by first | decide | assumption)).trans ?_; first | assumption | exact x_up_s | (refine (x_up_n (by first | decide | assumption)).trans ?_; first | assumption | exact x_up_s | (refine (x_up_n (by first | decide | assumption)).trans ?_; first | assumption | exact x_up_s | (refine (x_up_n (by first | decide | assumption)).trans ?_; first | assumption | exact x_up_s | (refine (x_up_n (by first | decide | assumption)).trans ?_; first | assumption | exact x_up_s | (refine (x_up_n (by first | decide | assumption)).trans ?_; first | assumption | exact x_up_s)))))))))))))) rfl (by omega) (by decide) ?_
    rw [csU_upd, crU_s, x_up_up]
    first | refine x_incN dX2_countWay_79 rfl (by decide) ?_ | refine x_iinc dX2_countWay_79 rfl rfl (by decide) ?_
    refine x_goto 59 dX2_countWay_82 (by decide) ?_
    exact x_wk (ih (k + 1) (by omega)) ⟨rfl, rfl, rfl, trivial⟩
def fiU (wy k : Nat) (Wr Fi : Nat → Nat) : Nat → Nat := if wy = 0 then mixN k Wr Fi else Fi
theorem fiU_0 (wy : Nat) (Wr Fi : Nat → Nat) : fiU wy 0 Wr Fi = Fi := by unfold fiU; split <;> simp [mixN_0]
set_option maxRecDepth 100000 in
set_option maxHeartbeats 4000000 in
theorem cR_cw1 (d : Nat) (h : x_H) {fr ls : Int32} {wy ak : Nat} (cr : Nat) (hcr : cr < 256) (hak : ak ≤ 4) (hwy : wy < 2 ^ 31) (Wr Fi Ca Cr : Nat → Nat) (hWr : ∀ j, Wr j < 8) (hR : h 10 = x_sr fr (nI wy) (nI ak) ls) (h6 : h 16 = x_na 4 Wr) (h4 : h 14 = x_na 8 Cr) (Q : Option Value → x_H → Prop) (hq : Q none (x_up (x_up (x_up (x_up h 12 (x_na 4 (fiU wy ak Wr Fi))) 13 (x_na 4 (caU ak Wr Ca))) 14 (x_na 8 (crU 8 cr Cr))) 10 (x_sr fr (nI (wy + 1)) (nI ak) ls))) :
    ∀ (r k : Nat), k + r = ak → x_V d mX2_countWay 2 (x_ls [some (.ref 10), some (.int (nI cr)), some (.int (nI k))]) [] (x_up (x_up h 12 (x_na 4 (fiU wy k Wr Fi))) 13 (x_na 4 (caU k Wr Ca))) Q := by
  intro r
  induction r with
  | zero =>
    intro k hk
    have : k = ak := by omega
    subst this
    refine x_iload_n (i := 2) dX2_countWay_2 rfl rfl ?_
    refine x_aload_n (i := 0) dX2_countWay_3 rfl rfl ?_
    refine x_get flX2_36 dX2_countWay_4 (by first | decide | assumption) (by first | assumption | exact x_up_s | (refine (x_up_n (by first | decide | assumption)).trans ?_; first | assumption | exact x_up_s | (refine (x_up_n (by first | decide | assumption)).trans ?_; first | assumption | exact x_up_s | (refine (x_up_n (by first | decide | assumption)).trans ?_; first | assumption | exact x_up_s | (refine (x_up_n (by first | decide | assumption)).trans ?_; first | assumption | exact x_up_s | (refine (x_up_n (by first | decide | assumption)).trans ?_; first | assumption | exact x_up_s | (refine (x_up_n (by first | decide | assumption)).trans ?_; first | assumption | exact x_up_s | (refine (x_up_n (by first | decide | assumption)).trans ?_; first | assumption | exact x_up_s | (refine (x_up_n (by first | decide | assumption)).trans ?_; first | assumption | exact x_up_s | (refine (x_up_n (by first | decide | assumption)).trans ?_; first | assumption | exact x_up_s | (refine (x_up_n (by first | decide | assumption)).trans ?_; first | assumption | exact x_up_s | (refine (x_up_n (by first | decide | assumption)).trans ?_; first | assumption | exact x_up_s | (refine (x_up_n (by first | decide | assumption)).trans ?_; first | assumption | exact x_up_s | (refine (x_up_n (by first | decide | assumption)).trans ?_; first | assumption | exact x_up_s)))))))))))))) rfl ?_
    refine x_icmp_ge 57 dX2_countWay_7 (by decide) (fun _ => ?_) (fun hc => absurd (nI_le (by omega) (by omega)) hc)
    refine x_iconst (v := 0) dX2_countWay_57 (by decide) ?_
    refine x_istore_n (i := 2) dX2_countWay_58 rfl (by decide) ?_
    refine x_hp (h' := x_up (x_up (x_up h 12 (x_na 4 (fiU wy k Wr Fi))) 13 (x_na 4 (caU k Wr Ca))) 14 (x_na 8 (crU 0 cr Cr))) (by rw [crU_0]; exact (x_up_eta (by exact h4)).symm) ?_
    exact x_wk (cR_cw2 d _ cr hcr Cr (by first | assumption | exact x_up_s | (refine (x_up_n (by first | decide | assumption)).trans ?_; first | assumption | exact x_up_s | (refine (x_up_n (by first | decide | assumption)).trans ?_; first | assumption | exact x_up_s | (refine (x_up_n (by first | decide | assumption)).trans ?_; first | assumption | exact x_up_s | (refine (x_up_n (by first | decide | assumption)).trans ?_; first | assumption | exact x_up_s | (refine (x_up_n (by first | decide | assumption)).trans ?_; first | assumption | exact x_up_s | (refine (x_up_n (by first | decide | assumption)).trans ?_; first | assumption | exact x_up_s | (refine (x_up_n (by first | decide | assumption)).trans ?_; first | assumption | exact x_up_s | (refine (x_up_n (by first | decide | assumption)).trans ?_; first | assumption | exact x_up_s | (refine (x_up_n (by first | decide | assumption)).trans ?_; first | assumption | exact x_up_s | (refine (x_up_n (by first | decide | assumption)).trans ?_; first | assumption | exact x_up_s | (refine (x_up_n (by first | decide | assumption)).trans ?_; first | assumption | exact x_up_s | (refine (x_up_n (by first | decide | assumption)).trans ?_; first | assumption | exact x_up_s | (refine (x_up_n (by first | decide | assumption)).trans ?_; first | assumption | exact x_up_s)))))))))))))) _ hq 8 0 (by omega)) ⟨rfl, rfl, rfl, trivial⟩
  | succ r ih =>
    intro k hk
    have hk8 := hWr k
    have tail : ∀ Fi2 : Nat → Nat, Fi2 = fiU wy (k + 1) Wr Fi → x_V d mX2_countWay 34 (x_ls [some (.ref 10), some (.int (nI cr)), some (.int (nI k))]) [] (x_up (x_up h 12 (x_na 4 Fi2)) 13 (x_na 4 (caU k Wr Ca))) Q := by
      intro Fi2 hF
      refine x_aload_n (i := 0) dX2_countWay_34 rfl rfl ?_
      refine x_get flX2_30 dX2_countWay_35 (by first | decide | assumption) (by first | assumption | exact x_up_s | (refine (x_up_n (by first | decide | assumption)).trans ?_; first | assumption | exact x_up_s | (refine (x_up_n (by first | decide | assumption)).trans ?_; first | assumption | exact x_up_s | (refine (x_up_n (by first | decide | assumption)).trans ?_; first | assumption | exact x_up_s | (refine (x_up_n (by first | decide | assumption)).trans ?_; first | assumption | exact x_up_s | (refine (x_up_n (by first | decide | assumption)).trans ?_; first | assumption | exact x_up_s | (refine (x_up_n (by first | decide | assumption)).trans ?_; first | assumption | exact x_up_s | (refine (x_up_n (by first | decide | assumption)).trans ?_; first | assumption | exact x_up_s | (refine (x_up_n (by first | decide | assumption)).trans ?_; first | assumption | exact x_up_s | (refine (x_up_n (by first | decide | assumption)).trans ?_; first | assumption | exact x_up_s | (refine (x_up_n (by first | decide | assumption)).trans ?_; first | assumption | exact x_up_s | (refine (x_up_n (by first | decide | assumption)).trans ?_; first | assumption | exact x_up_s | (refine (x_up_n (by first | decide | assumption)).trans ?_; first | assumption | exact x_up_s | (refine (x_up_n (by first | decide | assumption)).trans ?_; first | assumption | exact x_up_s)))))))))))))) rfl ?_
      refine x_iload_n (i := 2) dX2_countWay_38 rfl rfl ?_
      refine x_dup2 dX2_countWay_39 rfl rfl ?_
      refine x_iald k dX2_countWay_40 (by first | decide | assumption) (by first | assumption | exact x_up_s | (refine (x_up_n (by first | decide | assumption)).trans ?_; first | assumption | exact x_up_s | (refine (x_up_n (by first | decide | assumption)).trans ?_; first | assumption | exact x_up_s | (refine (x_up_n (by first | decide | assumption)).trans ?_; first | assumption | exact x_up_s | (refine (x_up_n (by first | decide | assumption)).trans ?_; first | assumption | exact x_up_s | (refine (x_up_n (by first | decide | assumption)).trans ?_; first | assumption | exact x_up_s | (refine (x_up_n (by first | decide | assumption)).trans ?_; first | assumption | exact x_up_s | (refine (x_up_n (by first | decide | assumption)).trans ?_; first | assumption | exact x_up_s | (refine (x_up_n (by first | decide | assumption)).trans ?_; first | assumption | exact x_up_s | (refine (x_up_n (by first | decide | assumption)).trans ?_; first | assumption | exact x_up_s | (refine (x_up_n (by first | decide | assumption)).trans ?_; first | assumption | exact x_up_s | (refine (x_up_n (by first | decide | assumption)).trans ?_; first | assumption | exact x_up_s | (refine (x_up_n (by first | decide | assumption)).trans ?_; first | assumption | exact x_up_s | (refine (x_up_n (by first | decide | assumption)).trans ?_; first | assumption | exact x_up_s)))))))))))))) rfl (by omega) (by decide) ?_
      refine x_iconst (v := 1) dX2_countWay_41 (by decide) ?_
      refine x_aload_n (i := 0) dX2_countWay_42 rfl rfl ?_
      refine x_get flX2_42 dX2_countWay_43 (by first | decide | assumption) (by first | assumption | exact x_up_s | (refine (x_up_n (by first | decide | assumption)).trans ?_; first | assumption | exact x_up_s | (refine (x_up_n (by first | decide | assumption)).trans ?_; first | assumption | exact x_up_s | (refine (x_up_n (by first | decide | assumption)).trans ?_; first | assumption | exact x_up_s | (refine (x_up_n (by first | decide | assumption)).trans ?_; first | assumption | exact x_up_s | (refine (x_up_n (by first | decide | assumption)).trans ?_; first | assumption | exact x_up_s | (refine (x_up_n (by first | decide | assumption)).trans ?_; first | assumption | exact x_up_s | (refine (x_up_n (by first | decide | assumption)).trans ?_; first | assumption | exact x_up_s | (refine (x_up_n (by first | decide | assumption)).trans ?_; first | assumption | exact x_up_s | (refine (x_up_n (by first | decide | assumption)).trans ?_; first | assumption | exact x_up_s | (refine (x_up_n (by first | decide | assumption)).trans ?_; first | assumption | exact x_up_s | (refine (x_up_n (by first | decide | assumption)).trans ?_; first | assumption | exact x_up_s | (refine (x_up_n (by first | decide | assumption)).trans ?_; first | assumption | exact x_up_s | (refine (x_up_n (by first | decide | assumption)).trans ?_; first | assumption | exact x_up_s)))))))))))))) rfl ?_
      refine x_iload_n (i := 2) dX2_countWay_46 rfl rfl ?_
      refine x_iald k dX2_countWay_47 (by first | decide | assumption) (by first | assumption | exact x_up_s | (refine (x_up_n (by first | decide | assumption)).trans ?_; first | assumption | exact x_up_s | (refine (x_up_n (by first | decide | assumption)).trans ?_; first | assumption | exact x_up_s | (refine (x_up_n (by first | decide | assumption)).trans ?_; first | assumption | exact x_up_s | (refine (x_up_n (by first | decide | assumption)).trans ?_; first | assumption | exact x_up_s | (refine (x_up_n (by first | decide | assumption)).trans ?_; first | assumption | exact x_up_s | (refine (x_up_n (by first | decide | assumption)).trans ?_; first | assumption | exact x_up_s | (refine (x_up_n (by first | decide | assumption)).trans ?_; first | assumption | exact x_up_s | (refine (x_up_n (by first | decide | assumption)).trans ?_; first | assumption | exact x_up_s | (refine (x_up_n (by first | decide | assumption)).trans ?_; first | assumption | exact x_up_s | (refine (x_up_n (by first | decide | assumption)).trans ?_; first | assumption | exact x_up_s | (refine (x_up_n (by first | decide | assumption)).trans ?_; first | assumption | exact x_up_s | (refine (x_up_n (by first | decide | assumption)).trans ?_; first | assumption | exact x_up_s | (refine (x_up_n (by first | decide | assumption)).trans ?_; first | assumption | exact x_up_s)))))))))))))) rfl (by omega) (by decide) ?_
      refine x_ishl dX2_countWay_48 ?_
      refine x_ior dX2_countWay_49 ?_
      refine x_topi (y := nI (Ca k ||| 2 ^ Wr k)) (by rw [caU_at, n_one_shl _ (by omega), n_or]) ?_
      refine x_iast k dX2_countWay_50 (by first | decide | assumption) (by first | assumption | exact x_up_s | (refine (x_up_n (by first | decide | assumption)).trans ?_; first | assumption | exact x_up_s | (refine (x_up_n (by first | decide | assumption)).trans ?_; first | assumption | exact x_up_s | (refine (x_up_n (by first | decide | assumption)).trans ?_; first | assumption | exact x_up_s | (refine (x_up_n (by first | decide | assumption)).trans ?_; first | assumption | exact x_up_s | (refine (x_up_n (by first | decide | assumption)).trans ?_; first | assumption | exact x_up_s | (refine (x_up_n (by first | decide | assumption)).trans ?_; first | assumption | exact x_up_s | (refine (x_up_n (by first | decide | assumption)).trans ?_; first | assumption | exact x_up_s | (refine (x_up_n (by first | decide | assumption)).trans ?_; first | assumption | exact x_up_s | (refine (x_up_n (by first | decide | assumption)).trans ?_; first | assumption | exact x_up_s | (refine (x_up_n (by first | decide | assumption)).trans ?_; first | assumption | exact x_up_s | (refine (x_up_n (by first | decide | assumption)).trans ?_; first | assumption | exact x_up_s | (refine (x_up_n (by first | decide | assumption)).trans ?_; first | assumption | exact x_up_s | (refine (x_up_n (by first | decide | assumption)).trans ?_; first | assumption | exact x_up_s)))))))))))))) rfl (by omega) (by decide) ?_
      rw [csU_upd, caU_s, x_up_up]
      first | refine x_incN dX2_countWay_51 rfl (by decide) ?_ | refine x_iinc dX2_countWay_51 rfl rfl (by decide) ?_
      refine x_goto 2 dX2_countWay_54 (by decide) ?_
      rw [hF]
      exact x_wk (ih (k + 1) (by omega)) ⟨rfl, rfl, rfl, trivial⟩
    refine x_iload_n (i := 2) dX2_countWay_2 rfl rfl ?_
    refine x_aload_n (i := 0) dX2_countWay_3 rfl rfl ?_
    refine x_get flX2_36 dX2_countWay_4 (by first | decide | assumption) (by first | assumption | exact x_up_s | (refine (x_up_n (by first | decide | assumption)).trans ?_; first | assumption | exact x_up_s | (refine (x_up_n (by first | decide | assumption)).trans ?_; first | assumption | exact x_up_s | (refine (x_up_n (by first | decide | assumption)).trans ?_; first | assumption | exact x_up_s | (refine (x_up_n (by first | decide | assumption)).trans ?_; first | assumption | exact x_up_s | (refine (x_up_n (by first | decide | assumption)).trans ?_; first | assumption | exact x_up_s | (refine (x_up_n (by first | decide | assumption)).trans ?_; first | assumption | exact x_up_s | (refine (x_up_n (by first | decide | assumption)).trans ?_; first | assumption | exact x_up_s | (refine (x_up_n (by first | decide | assumption)).trans ?_; first | assumption | exact x_up_s | (refine (x_up_n (by first | decide | assumption)).trans ?_; first | assumption | exact x_up_s | (refine (x_up_n (by first | decide | assumption)).trans ?_; first | assumption | exact x_up_s | (refine (x_up_n (by first | decide | assumption)).trans ?_; first | assumption | exact x_up_s | (refine (x_up_n (by first | decide | assumption)).trans ?_; first | assumption | exact x_up_s | (refine (x_up_n (by first | decide | assumption)).trans ?_; first | assumption | exact x_up_s)))))))))))))) rfl ?_
    refine x_icmp_ge 57 dX2_countWay_7 (by decide) (fun hc => absurd hc (nI_ge (by omega) (by omega))) (fun _ => ?_)
    refine x_iload_n (i := 2) dX2_countWay_10 rfl rfl ?_
    refine x_iconst (v := 4) dX2_countWay_11 (by decide) ?_
    refine x_icmp_ge 57 dX2_countWay_12 (by decide) (fun hc => absurd hc (nI_ge (b := 4) (by omega) (by decide))) (fun _ => ?_)
    refine x_aload_n (i := 0) dX2_countWay_15 rfl rfl ?_
    refine x_get flX2_22 dX2_countWay_16 (by first | decide | assumption) (by first | assumption | exact x_up_s | (refine (x_up_n (by first | decide | assumption)).trans ?_; first | assumption | exact x_up_s | (refine (x_up_n (by first | decide | assumption)).trans ?_; first | assumption | exact x_up_s | (refine (x_up_n (by first | decide | assumption)).trans ?_; first | assumption | exact x_up_s | (refine (x_up_n (by first | decide | assumption)).trans ?_; first | assumption | exact x_up_s | (refine (x_up_n (by first | decide | assumption)).trans ?_; first | assumption | exact x_up_s | (refine (x_up_n (by first | decide | assumption)).trans ?_; first | assumption | exact x_up_s | (refine (x_up_n (by first | decide | assumption)).trans ?_; first | assumption | exact x_up_s | (refine (x_up_n (by first | decide | assumption)).trans ?_; first | assumption | exact x_up_s | (refine (x_up_n (by first | decide | assumption)).trans ?_; first | assumption | exact x_up_s | (refine (x_up_n (by first | decide | assumption)).trans ?_; first | assumption | exact x_up_s | (refine (x_up_n (by first | decide | assumption)).trans ?_; first | assumption | exact x_up_s | (refine (x_up_n (by first | decide | assumption)).trans ?_; first | assumption | exact x_up_s | (refine (x_up_n (by first | decide | assumption)).trans ?_; first | assumption | exact x_up_s)))))))))))))) rfl ?_
    by_cases hw0 : wy = 0
    · refine x_if_ne 34 dX2_countWay_19 (by decide) (fun hc => absurd (by rw [hw0]; rfl) hc) (fun _ => ?_)
      refine x_aload_n (i := 0) dX2_countWay_22 rfl rfl ?_
      refine x_get flX2_26 dX2_countWay_23 (by first | decide | assumption) (by first | assumption | exact x_up_s | (refine (x_up_n (by first | decide | assumption)).trans ?_; first | assumption | exact x_up_s | (refine (x_up_n (by first | decide | assumption)).trans ?_; first | assumption | exact x_up_s | (refine (x_up_n (by first | decide | assumption)).trans ?_; first | assumption | exact x_up_s | (refine (x_up_n (by first | decide | assumption)).trans ?_; first | assumption | exact x_up_s | (refine (x_up_n (by first | decide | assumption)).trans ?_; first | assumption | exact x_up_s | (refine (x_up_n (by first | decide | assumption)).trans ?_; first | assumption | exact x_up_s | (refine (x_up_n (by first | decide | assumption)).trans ?_; first | assumption | exact x_up_s | (refine (x_up_n (by first | decide | assumption)).trans ?_; first | assumption | exact x_up_s | (refine (x_up_n (by first | decide | assumption)).trans ?_; first | assumption | exact x_up_s | (refine (x_up_n (by first | decide | assumption)).trans ?_; first | assumption | exact x_up_s | (refine (x_up_n (by first | decide | assumption)).trans ?_; first | assumption | exact x_up_s | (refine (x_up_n (by first | decide | assumption)).trans ?_; first | assumption | exact x_up_s | (refine (x_up_n (by first | decide | assumption)).trans ?_; first | assumption | exact x_up_s)))))))))))))) rfl ?_
      refine x_iload_n (i := 2) dX2_countWay_26 rfl rfl ?_
      refine x_aload_n (i := 0) dX2_countWay_27 rfl rfl ?_
      refine x_get flX2_42 dX2_countWay_28 (by first | decide | assumption) (by first | assumption | exact x_up_s | (refine (x_up_n (by first | decide | assumption)).trans ?_; first | assumption | exact x_up_s | (refine (x_up_n (by first | decide | assumption)).trans ?_; first | assumption | exact x_up_s | (refine (x_up_n (by first | decide | assumption)).trans ?_; first | assumption | exact x_up_s | (refine (x_up_n (by first | decide | assumption)).trans ?_; first | assumption | exact x_up_s | (refine (x_up_n (by first | decide | assumption)).trans ?_; first | assumption | exact x_up_s | (refine (x_up_n (by first | decide | assumption)).trans ?_; first | assumption | exact x_up_s | (refine (x_up_n (by first | decide | assumption)).trans ?_; first | assumption | exact x_up_s | (refine (x_up_n (by first | decide | assumption)).trans ?_; first | assumption | exact x_up_s | (refine (x_up_n (by first | decide | assumption)).trans ?_; first | assumption | exact x_up_s | (refine (x_up_n (by first | decide | assumption)).trans ?_; first | assumption | exact x_up_s | (refine (x_up_n (by first | decide | assumption)).trans ?_; first | assumption | exact x_up_s | (refine (x_up_n (by first | decide | assumption)).trans ?_; first | assumption | exact x_up_s | (refine (x_up_n (by first | decide | assumption)).trans ?_; first | assumption | exact x_up_s)))))))))))))) rfl ?_
      refine x_iload_n (i := 2) dX2_countWay_31 rfl rfl ?_
      refine x_iald k dX2_countWay_32 (by first | decide | assumption) (by first | assumption | exact x_up_s | (refine (x_up_n (by first | decide | assumption)).trans ?_; first | assumption | exact x_up_s | (refine (x_up_n (by first | decide | assumption)).trans ?_; first | assumption | exact x_up_s | (refine (x_up_n (by first | decide | assumption)).trans ?_; first | assumption | exact x_up_s | (refine (x_up_n (by first | decide | assumption)).trans ?_; first | assumption | exact x_up_s | (refine (x_up_n (by first | decide | assumption)).trans ?_; first | assumption | exact x_up_s | (refine (x_up_n (by first | decide | assumption)).trans ?_; first | assumption | exact x_up_s | (refine (x_up_n (by first | decide | assumption)).trans ?_; first | assumption | exact x_up_s | (refine (x_up_n (by first | decide | assumption)).trans ?_; first | assumption | exact x_up_s | (refine (x_up_n (by first | decide | assumption)).trans ?_; first | assumption | exact x_up_s | (refine (x_up_n (by first | decide | assumption)).trans ?_; first | assumption | exact x_up_s | (refine (x_up_n (by first | decide | assumption)).trans ?_; first | assumption | exact x_up_s | (refine (x_up_n (by first | decide | assumption)).trans ?_; first | assumption | exact x_up_s | (refine (x_up_n (by first | decide | assumption)).trans ?_; first | assumption | exact x_up_s)))))))))))))) rfl (by omega) (by decide) ?_
      refine x_iast k dX2_countWay_33 (by first | decide | assumption) (by first | assumption | exact x_up_s | (refine (x_up_n (by first | decide | assumption)).trans ?_; first | assumption | exact x_up_s | (refine (x_up_n (by first | decide | assumption)).trans ?_; first | assumption | exact x_up_s | (refine (x_up_n (by first | decide | assumption)).trans ?_; first | assumption | exact x_up_s | (refine (x_up_n (by first | decide | assumption)).trans ?_; first | assumption | exact x_up_s | (refine (x_up_n (by first | decide | assumption)).trans ?_; first | assumption | exact x_up_s | (refine (x_up_n (by first | decide | assumption)).trans ?_; first | assumption | exact x_up_s | (refine (x_up_n (by first | decide | assumption)).trans ?_; first | assumption | exact x_up_s | (refine (x_up_n (by first | decide | assumption)).trans ?_; first | assumption | exact x_up_s | (refine (x_up_n (by first | decide | assumption)).trans ?_; first | assumption | exact x_up_s | (refine (x_up_n (by first | decide | assumption)).trans ?_; first | assumption | exact x_up_s | (refine (x_up_n (by first | decide | assumption)).trans ?_; first | assumption | exact x_up_s | (refine (x_up_n (by first | decide | assumption)).trans ?_; first | assumption | exact x_up_s | (refine (x_up_n (by first | decide | assumption)).trans ?_; first | assumption | exact x_up_s)))))))))))))) rfl (by omega) (by decide) ?_
      rw [csU_upd]
      have e : csU (fiU wy k Wr Fi) k (Wr k) = fiU wy (k + 1) Wr Fi := by unfold fiU; rw [if_pos hw0, if_pos hw0, mixN_s]
      rw [e]
      refine x_hp (h' := x_up (x_up h 12 (x_na 4 (fiU wy (k + 1) Wr Fi))) 13 (x_na 4 (caU k Wr Ca))) (by funext j9; simp only [x_up]; (repeat' split) <;> first | rfl | omega | simp_all) ?_
      exact x_wk (tail _ rfl) ⟨rfl, rfl, rfl, trivial⟩
    · refine x_if_ne 34 dX2_countWay_19 (by decide) (fun _ => ?_) (fun hc => absurd hc (fun q => hw0 (nI_inj (b := 0) hwy (by decide) q)))
      have e : fiU wy k Wr Fi = fiU wy (k + 1) Wr Fi := by unfold fiU; rw [if_neg hw0, if_neg hw0]
      rw [e]
      exact x_wk (tail _ rfl) ⟨rfl, rfl, rfl, trivial⟩
abbrev St : Type := Bd × (Nat → Nat) × Nat × (Nat → Nat) × (Nat → Nat) × (Nat → Nat)
def x_Z (h : x_H) (L w : Nat) (fr : Int32) (ak l : Nat) (s : St) : x_H :=
  x_up (x_up (x_up (x_up (x_up (x_up h 16 (x_na 4 s.2.1)) 12 (x_na 4 s.2.2.2.1)) 13 (x_na 4 s.2.2.2.2.1)) 14 (x_na 8 s.2.2.2.2.2)) 10 (x_sr fr (nI s.2.2.1) (nI ak) (nI l))) 11 (x_bd L w s.1)
def wayS (ak cr : Nat) (s : St) : St := (s.1, s.2.1, s.2.2.1 + 1, fiU s.2.2.1 ak s.2.1 s.2.2.2.1, caU ak s.2.1 s.2.2.2.2.1, crU 8 cr s.2.2.2.2.2)
set_option maxRecDepth 100000 in
set_option maxHeartbeats 4000000 in
theorem cR_cw (d : Nat) (h : x_H) {L w : Nat} {fr : Int32} {ak l : Nat} (s : St) (cr : Nat) (hcr : cr < 256) (hak : ak ≤ 4) (hwy : s.2.2.1 < 2 ^ 31) (hWr : ∀ j, s.2.1 j < 8) : x_Ct d mX2_countWay [.ref 10, .int (nI cr)] (x_Z h L w fr ak l s) (fun r h' => r = none ∧ h' = x_Z h L w fr ak l (wayS ak cr s)) := by
  obtain ⟨b, Wr, wy, Fi, Ca, Cr⟩ := s
  dsimp only at hwy hWr
  refine x_enter pnX2_countWay (Nat.le_of_ble_eq_true rfl) ?_
  refine x_iconst (v := 0) dX2_countWay_0 (by decide) ?_
  refine x_istore_n (i := 2) dX2_countWay_1 rfl (by decide) ?_
  refine x_hp (h' := x_up (x_up (x_Z h L w fr ak l (b, Wr, wy, Fi, Ca, Cr)) 12 (x_na 4 (fiU wy 0 Wr Fi))) 13 (x_na 4 (caU 0 Wr Ca))) (by rw [fiU_0, caU_0]; unfold x_Z; dsimp only; exact (by funext j9; simp only [x_up]; (repeat' split) <;> first | rfl | omega | simp_all)) ?_
  refine x_wk (cR_cw1 d _ cr hcr hak hwy Wr Fi Ca Cr hWr (by unfold x_Z; dsimp only; first | assumption | exact x_up_s | (refine (x_up_n (by first | decide | assumption)).trans ?_; first | assumption | exact x_up_s | (refine (x_up_n (by first | decide | assumption)).trans ?_; first | assumption | exact x_up_s | (refine (x_up_n (by first | decide | assumption)).trans ?_; first | assumption | exact x_up_s | (refine (x_up_n (by first | decide | assumption)).trans ?_; first | assumption | exact x_up_s | (refine (x_up_n (by first | decide | assumption)).trans ?_; first | assumption | exact x_up_s | (refine (x_up_n (by first | decide | assumption)).trans ?_; first | assumption | exact x_up_s | (refine (x_up_n (by first | decide | assumption)).trans ?_; first | assumption | exact x_up_s | (refine (x_up_n (by first | decide | assumption)).trans ?_; first | assumption | exact x_up_s | (refine (x_up_n (by first | decide | assumption)).trans ?_; first | assumption | exact x_up_s | (refine (x_up_n (by first | decide | assumption)).trans ?_; first | assumption | exact x_up_s | (refine (x_up_n (by first | decide | assumption)).trans ?_; first | assumption | exact x_up_s | (refine (x_up_n (by first | decide | assumption)).trans ?_; first | assumption | exact x_up_s | (refine (x_up_n (by first | decide | assumption)).trans ?_; first | assumption | exact x_up_s)))))))))))))) (by unfold x_Z; dsimp only; first | assumption | exact x_up_s | (refine (x_up_n (by first | decide | assumption)).trans ?_; first | assumption | exact x_up_s | (refine (x_up_n (by first | decide | assumption)).trans ?_; first | assumption | exact x_up_s | (refine (x_up_n (by first | decide | assumption)).trans ?_; first | assumption | exact x_up_s | (refine (x_up_n (by first | decide | assumption)).trans ?_; first | assumption | exact x_up_s | (refine (x_up_n (by first | decide | assumption)).trans ?_; first | assumption | exact x_up_s | (refine (x_up_n (by first | decide | assumption)).trans ?_; first | assumption | exact x_up_s | (refine (x_up_n (by first | decide | assumption)).trans ?_; first | assumption | exact x_up_s | (refine (x_up_n (by first | decide | assumption)).trans ?_; first | assumption | exact x_up_s | (refine (x_up_n (by first | decide | assumption)).trans ?_; first | assumption | exact x_up_s | (refine (x_up_n (by first | decide | assumption)).trans ?_; first | assumption | exact x_up_s | (refine (x_up_n (by first | decide | assumption)).trans ?_; first | assumption | exact x_up_s | (refine (x_up_n (by first | decide | assumption)).trans ?_; first | assumption | exact x_up_s | (refine (x_up_n (by first | decide | assumption)).trans ?_; first | assumption | exact x_up_s)))))))))))))) (by unfold x_Z; dsimp only; first | assumption | exact x_up_s | (refine (x_up_n (by first | decide | assumption)).trans ?_; first | assumption | exact x_up_s | (refine (x_up_n (by first | decide | assumption)).trans ?_; first | assumption | exact x_up_s | (refine (x_up_n (by first | decide | assumption)).trans ?_; first | assumption | exact x_up_s | (refine (x_up_n (by first | decide | assumption)).trans ?_; first | assumption | exact x_up_s | (refine (x_up_n (by first | decide | assumption)).trans ?_; first | assumption | exact x_up_s | (refine (x_up_n (by first | decide | assumption)).trans ?_; first | assumption | exact x_up_s | (refine (x_up_n (by first | decide | assumption)).trans ?_; first | assumption | exact x_up_s | (refine (x_up_n (by first | decide | assumption)).trans ?_; first | assumption | exact x_up_s | (refine (x_up_n (by first | decide | assumption)).trans ?_; first | assumption | exact x_up_s | (refine (x_up_n (by first | decide | assumption)).trans ?_; first | assumption | exact x_up_s | (refine (x_up_n (by first | decide | assumption)).trans ?_; first | assumption | exact x_up_s | (refine (x_up_n (by first | decide | assumption)).trans ?_; first | assumption | exact x_up_s | (refine (x_up_n (by first | decide | assumption)).trans ?_; first | assumption | exact x_up_s)))))))))))))) _ ⟨rfl, ?_⟩ ak 0 (by omega)) ⟨rfl, rfl, rfl, trivial⟩
  unfold x_Z wayS
  dsimp only
  exact (by funext j9; simp only [x_up]; (repeat' split) <;> first | rfl | omega | simp_all)
def ev8 (g : St → Nat → St) : Nat → Nat → St → St
  | 0, _, s => s
  | f + 1, p, s => ev8 g f (p + 1) (g s p)
def fwA (n l ak : Nat) (W U : Nat → Nat) (T : Nat → Option Nat) (fa : Nat → Nat) (w L : Nat) : Nat → Nat → Nat → Nat → St → St
  | 0, _, ev, cr, s =>
    let k := wkA W U T w L (min n l - ev) ev s.1
    if k.1 then wayS ak cr (k.2, s.2) else (k.2, s.2)
  | r + 1, nth, ev, cr, s =>
    let k := wkA W U T w L (min (fa nth) l - ev) ev s.1
    if k.1 then ev8 (fun s p =>
        let s1 : St := (bw w L (p, 0) k.2, csU s.2.1 nth p, s.2.2)
        if hbh W U (fa nth + 1) s1.1 then fwA n l ak W U T fa w L r (nth + 1) (fa nth + 1) (cr ||| 2 ^ p) s1 else s1) 8 0 (k.2, s.2)
    else (k.2, s.2)
def okS (L r : Nat) (s : St) : Prop := okZ L s.1 ∧ (∀ j, s.2.1 j < 8) ∧ s.2.2.1 + 8 ^ r ≤ 2 ^ 20
theorem csU_lt8 {f : Nat → Nat} {k p : Nat} (hf : ∀ j, f j < 8) (hp : p < 8) : ∀ j, csU f k p j < 8 := by
  intro j
  unfold csU
  split
  · exact hp
  · exact hf j
theorem ok_ev8 {L : Nat} {g : St → Nat → St} {c : Nat} (hg : ∀ (s : St) (p : Nat), p < 8 → okZ L s.1 → (∀ j, s.2.1 j < 8) → okZ L (g s p).1 ∧ (∀ j, (g s p).2.1 j < 8) ∧ (g s p).2.2.1 ≤ s.2.2.1 + c) :
    ∀ (f p : Nat) (s : St), p + f = 8 → okZ L s.1 → (∀ j, s.2.1 j < 8) → okZ L (ev8 g f p s).1 ∧ (∀ j, (ev8 g f p s).2.1 j < 8) ∧ (ev8 g f p s).2.2.1 ≤ s.2.2.1 + f * c
  | 0, _, _, _, h1, h2 => ⟨h1, h2, Nat.le_add_right _ _⟩
  | f + 1, p, s, hp, h1, h2 => by
    unfold ev8
    obtain ⟨a1, a2, a3⟩ := hg s p (by omega) h1 h2
    obtain ⟨b1, b2, b3⟩ := ok_ev8 hg f (p + 1) (g s p) (by omega) a1 a2
    refine ⟨b1, b2, ?_⟩
    rw [Nat.add_mul, Nat.one_mul]
    omega
theorem ok_fwA {n l ak : Nat} {W U : Nat → Nat} {T : Nat → Option Nat} {fa : Nat → Nat} {w L : Nat} (hT : ∀ j p, T j = some p → p < 8) :
    ∀ (r nth ev cr : Nat) (s : St), okZ L s.1 → (∀ j, s.2.1 j < 8) → okZ L (fwA n l ak W U T fa w L r nth ev cr s).1 ∧ (∀ j, (fwA n l ak W U T fa w L r nth ev cr s).2.1 j < 8) ∧ (fwA n l ak W U T fa w L r nth ev cr s).2.2.1 ≤ s.2.2.1 + 8 ^ r
  | 0, nth, ev, cr, s, h1, h2 => by
    unfold fwA
    dsimp only
    have hk := okZ_wkA (W := W) (U := U) (w := w) hT (min n l - ev) ev s.1 h1
    split
    · exact ⟨hk, h2, Nat.le_refl _⟩
    · exact ⟨hk, h2, Nat.le_add_right _ _⟩
  | r + 1, nth, ev, cr, s, h1, h2 => by
    unfold fwA
    dsimp only
    have hk := okZ_wkA (W := W) (U := U) (w := w) hT (min (fa nth) l - ev) ev s.1 h1
    split
    · have := ok_ev8 (L := L) (c := 8 ^ r) (g := fun s' p =>
        if hbh W U (fa nth + 1) (bw w L (p, 0) (wkA W U T w L (min (fa nth) l - ev) ev s.1).2) then fwA n l ak W U T fa w L r (nth + 1) (fa nth + 1) (cr ||| 2 ^ p) (bw w L (p, 0) (wkA W U T w L (min (fa nth) l - ev) ev s.1).2, csU s'.2.1 nth p, s'.2.2) else (bw w L (p, 0) (wkA W U T w L (min (fa nth) l - ev) ev s.1).2, csU s'.2.1 nth p, s'.2.2)) (by
          intro s' p hp g1 g2
          have z1 : okZ L (bw w L (p, 0) (wkA W U T w L (min (fa nth) l - ev) ev s.1).2) := okZ_bw hk (by omega)
          split
          · exact ok_fwA hT r (nth + 1) (fa nth + 1) (cr ||| 2 ^ p) _ z1 (csU_lt8 g2 hp)
          · exact ⟨z1, csU_lt8 g2 hp, Nat.le_add_right _ _⟩) 8 0 ((wkA W U T w L (min (fa nth) l - ev) ev s.1).2, s.2) (by omega) hk h2
      rw [Nat.pow_succ, Nat.mul_comm]
      exact this
    · exact ⟨hk, h2, Nat.le_add_right _ _⟩
