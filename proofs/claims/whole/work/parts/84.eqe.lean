/-! one look more -/
def shT (pl : Nat) (q : Nat × Nat) : Nat × Nat := (q.1, if q.2 < pl then q.2 else q.2 + 1)
def shJ (pl j : Nat) : Nat := if j < pl then j else j + 1
theorem mR_dv {w L : Nat} {dv dv' : Nat → Nat} : ∀ k, (∀ j, j < k → dv j = dv' j) → mR w L dv k = mR w L dv' k
  | 0, _ => rfl
  | k + 1, h => by
    rw [mR_s, mR_s, mR_dv k (fun j hj => h j (by omega))]
    unfold mst
    rw [h k (by omega)]
theorem grA_dv {w L : Nat} {dv dv' R0 Z0 : Nat → Nat} : ∀ k, (∀ j, j < k → dv j = dv' j) → grA w L dv R0 Z0 k = grA w L dv' R0 Z0 k
  | 0, _ => rfl
  | k + 1, h => by
    rw [grA, grA, grA_dv k (fun j hj => h j (by omega))]
    unfold grS
    rw [h k (by omega)]
theorem shT_id {pl : Nat} : ∀ b : Bd, (∀ q ∈ b, q.2 < pl) → b.map (shT pl) = b
  | [], _ => rfl
  | q :: b, h => by
    rw [List.map_cons, shT_id b (fun z hz => h z (List.mem_cons_of_mem _ hz))]
    unfold shT
    rw [if_pos (h q List.mem_cons_self)]
theorem mR_ins {w L pl : Nat} {dv : Nat → Nat} : ∀ m, mR w L (insD pl 16 dv) (pl + m + 1) = (mR w L dv (pl + m)).map (shT pl)
  | 0 => by
    rw [Nat.add_zero, mR_s, mst, insD_at, if_neg (by decide), mR_dv (dv' := dv) pl (fun j hj => insD_lt hj)]
    exact (shT_id _ (fun q hq => (mR_ev pl q hq).1)).symm
  | m + 1 => by
    rw [show pl + (m + 1) + 1 = (pl + m + 1) + 1 by omega, mR_s, mR_ins m, show pl + (m + 1) = (pl + m) + 1 by omega, mR_s]
    unfold mst
    rw [insD_gt (show pl ≤ pl + m by omega)]
    by_cases h : dv (pl + m) < 16
    · rw [if_pos h, if_pos h]
      refine bwM_map (f := shT pl) (fun _ => rfl) ?_ _
      unfold shT
      rw [if_neg (show ¬ pl + m < pl by omega)]
    · rw [if_neg h, if_neg h]
theorem stB_cons (e : Nat) (q : Nat × Nat) (b : Bd) : stB e (q :: b) = (q.2 == e || stB e b) := rfl
theorem stB_sh {pl j : Nat} : ∀ b : Bd, stB (shJ pl j) (b.map (shT pl)) = stB j b
  | [] => rfl
  | q :: b => by
    rw [List.map_cons, stB_cons, stB_cons, stB_sh b]
    congr 1
    unfold shT shJ
    rw [Bool.eq_iff_iff, beq_iff_eq, beq_iff_eq]
    dsimp only
    split <;> split <;> omega
theorem stB_ge {w L : Nat} {dv : Nat → Nat} {i j : Nat} (h : i ≤ j) : stB j (mR w L dv i) = false := by
  unfold stB
  rw [List.any_eq_false]
  intro q hq
  have := (mR_ev i q hq).1
  rw [beq_iff_eq]
  omega
theorem gr_cr {w L : Nat} {dv R0 Z0 : Nat → Nat} {i : Nat} (h : dv i < 16) : (grA w L dv R0 Z0 (i + 1)).2.2 = csU (grA w L dv R0 Z0 i).2.2 i 0 := by
  show (grS w L dv i (grA w L dv R0 Z0 i)).2.2 = _
  unfold grS
  rw [if_pos h]
theorem gr_lk {w L : Nat} {dv R0 Z0 : Nat → Nat} {i : Nat} (h : ¬ dv i < 16) : (grA w L dv R0 Z0 (i + 1)).2.2 = mkS (mR w L dv i) (csU (grA w L dv R0 Z0 i).2.2 i 0) := by
  show (grS w L dv i (grA w L dv R0 Z0 i)).2.2 = _
  unfold grS
  rw [if_neg h, grA_b]
theorem csU_n {Z : Nat → Nat} {k v j : Nat} (h : j ≠ k) : csU Z k v j = Z j := by unfold csU; rw [if_neg h]
theorem csU_s {Z : Nat → Nat} {k v : Nat} : csU Z k v k = v := by unfold csU; rw [if_pos rfl]
theorem if_and0 {c : Bool} {x : Nat} : decide ((if c then 1 else x) = 0) = (decide (x = 0) && !c) := by
  cases c <;> simp
theorem gr_ins {w L pl : Nat} {dv R0 Z0 : Nat → Nat} : ∀ m j, j < pl + m → msP (insD pl 16 dv) (grA w L (insD pl 16 dv) R0 Z0 (pl + m + 1)).2.2 (shJ pl j) = (msP dv (grA w L dv R0 Z0 (pl + m)).2.2 j && !stB j (mR w L dv pl))
  | 0, j, hj => by
    have hj : j < pl := by omega
    have e1 : shJ pl j = j := by unfold shJ; rw [if_pos hj]
    have h16 : ¬ insD pl 16 dv pl < 16 := by rw [insD_at]; decide
    rw [e1, Nat.add_zero, gr_lk h16, mR_dv (dv' := dv) pl (fun j hj => insD_lt hj), grA_dv (dv' := dv) pl (fun j hj => insD_lt hj)]
    unfold msP
    rw [mkS_at, insD_lt hj, csU_n (by omega), if_and0, Bool.and_assoc]
    rfl
  | m + 1, j, hj => by
    rw [show pl + (m + 1) + 1 = (pl + m + 1) + 1 by omega, show pl + (m + 1) = (pl + m) + 1 by omega]
    have hd : insD pl 16 dv (pl + m + 1) = dv (pl + m) := insD_gt (by omega)
    have es : shJ pl (pl + m) = pl + m + 1 := by unfold shJ; rw [if_neg (by omega)]
    by_cases h : dv (pl + m) < 16
    · rw [gr_cr h, gr_cr (by rw [hd]; exact h)]
      by_cases hjk : j = pl + m
      · subst hjk
        unfold msP
        rw [es, csU_s, csU_s, hd, stB_ge (by omega)]
        simp
      · have hlt : j < pl + m := by omega
        have ne : shJ pl j ≠ pl + m + 1 := by unfold shJ; split <;> omega
        have ih := gr_ins (w := w) (L := L) (dv := dv) (R0 := R0) (Z0 := Z0) m j hlt
        unfold msP at ih ⊢
        rw [csU_n ne, csU_n hjk, ih]
    · rw [gr_lk h, gr_lk (by rw [hd]; exact h), mR_ins]
      by_cases hjk : j = pl + m
      · subst hjk
        unfold msP
        rw [es, hd, decide_eq_false h, Bool.false_and, Bool.false_and, Bool.false_and]
      · have hlt : j < pl + m := by omega
        have ne : shJ pl j ≠ pl + m + 1 := by unfold shJ; split <;> omega
        have ih := gr_ins (w := w) (L := L) (dv := dv) (R0 := R0) (Z0 := Z0) m j hlt
        unfold msP at ih ⊢
        rw [mkS_at, mkS_at, stB_sh, csU_n ne, csU_n hjk, if_and0, if_and0, ← Bool.and_assoc, ih]
        cases decide (dv j < 16) <;> cases decide ((grA w L dv R0 Z0 (pl + m)).2.2 j = 0) <;> cases stB j (mR w L dv (pl + m)) <;> cases stB j (mR w L dv pl) <;> rfl
theorem lkF_eq {w L : Nat} {cs : Nat → Nat} {n pl : Nat} (hoc : okC n cs) (hn : n ≤ 40) (hpl : pl ≤ n) (R Z : Nat → Nat) : lkF n cs L w R Z pl = pop (andN (unR w L cs n) (wev (bdR w L cs pl))) := by
  have h1 : pop (andN (unR w L cs n) (wev (bdR w L cs pl))) = cntF (fun j => msP (dvF cs) (rdM n cs L w R Z).2.2 j && !stB j (mR w L (dvF cs) pl)) n 0 := by
    refine pop_cnt hn (fun j => ?_)
    rw [andN_bit, un_bit hoc R Z, bdR_mR hoc pl hpl, wev_bit, Bool.and_assoc]
  rw [h1]
  unfold lkF rdM
  obtain ⟨m, rfl⟩ : ∃ m, n = pl + m := ⟨n - pl, by omega⟩
  have hg := gr_ins (w := w) (L := L) (pl := pl) (dv := dvF cs) (R0 := gr0 R) (Z0 := Z) m
  rw [show pl + m + 1 = pl + (1 + m) by omega, cntF_add, cntF_add, cntF_add]
  rw [show pl + (1 + m) = pl + m + 1 by omega]
  have c1 : cntF (msP (insD pl 16 (dvF cs)) (grA w L (insD pl 16 (dvF cs)) (gr0 R) Z (pl + m + 1)).2.2) pl 0 = cntF (fun j => msP (dvF cs) (grA w L (dvF cs) (gr0 R) Z (pl + m)).2.2 j && !stB j (mR w L (dvF cs) pl)) pl 0 := by
    refine cntF_cong pl 0 (fun j _ hj => ?_)
    have := hg j (by omega)
    rw [show shJ pl j = j by unfold shJ; rw [if_pos (by omega)]] at this
    exact this
  have c2 : cntF (msP (insD pl 16 (dvF cs)) (grA w L (insD pl 16 (dvF cs)) (gr0 R) Z (pl + m + 1)).2.2) 1 (0 + pl) = 0 := by
    refine cntF_0 1 _ (fun j h1 h2 => ?_)
    have : j = pl := by omega
    subst this
    unfold msP
    rw [insD_at]
    rfl
  have c3 : cntF (msP (insD pl 16 (dvF cs)) (grA w L (insD pl 16 (dvF cs)) (gr0 R) Z (pl + m + 1)).2.2) m (0 + pl + 1) = cntF (fun j => msP (dvF cs) (grA w L (dvF cs) (gr0 R) Z (pl + m)).2.2 j && !stB j (mR w L (dvF cs) pl)) m (0 + pl) := by
    rw [cntF_shift]
    refine cntF_cong m _ (fun j h1 h2 => ?_)
    have := hg j (by omega)
    rw [show shJ pl j = j + 1 by unfold shJ; rw [if_neg (by omega)]] at this
    exact this
  rw [c1, c2, c3, Nat.zero_add]
theorem lk_mn {w L : Nat} {cs : Nat → Nat} {m : Nat} {F : Nat → Nat} : ∀ (f i : Nat) (a : Nat × Nat), (∀ j, i ≤ j → j < i + f → F (j + 1) = pop (andN m (wev (bdR w L cs (j + 1))))) → mnM F f (i + 1) (some a) = some (lkA w L cs m f i (bdR w L cs i) a)
  | 0, _, _, _ => rfl
  | f + 1, i, a, h => by
    rw [mnM_s, h i (Nat.le_refl _) (by omega)]
    have ih := fun a => lk_mn (w := w) (L := L) (cs := cs) (m := m) (F := F) f (i + 1) a (fun j h1 h2 => h j (by omega) (by omega))
    unfold lkA
    dsimp only
    rw [show bst w L cs i (bdR w L cs i) = bdR w L cs (i + 1) from rfl]
    split
    · exact ih _
    · exact ih _
theorem andN_0 (m : Nat) : andN m 0 = m := by unfold andN; rw [Nat.and_zero, Nat.xor_zero]
theorem q_look (n : Nat) (cs : Nat → Nat) (L w : Nat) (R Z : Nat → Nat) (what : Int32) (hn : n ≤ 40) : aLookM n cs L w R Z what = aLook n cs L w what := by
  unfold aLookM aLook rfW rfO
  by_cases hw : what = 0 ∨ what = 1
  · rw [if_pos hw, if_pos hw]
    refine gd_c (fun hr => ?_)
    have hoc := okC_of hr (Nat.le_refl _)
    by_cases h40 : n < 40
    · rw [if_pos h40, if_pos h40]
      have e : mnM (lkF n cs L w R Z) (n + 1) 0 none = some (lkR w L cs n) := by
        unfold lkR
        rw [mnM]
        rw [lkF_eq hoc hn (Nat.zero_le _) R Z, show wev (bdR w L cs 0) = 0 from rfl, andN_0]
        exact lk_mn n 0 _ (fun j _ h2 => lkF_eq hoc hn (by omega) R Z)
      rw [e]
      rfl
    · rw [if_neg h40, if_neg h40]
  · rw [if_neg hw, if_neg hw]
    rfl
