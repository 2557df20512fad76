/-! class and model side by side -/
theorem MS_fr {h h' : x_H} {D : Dg} {T : Sg} {K kp : Nat → Nat} (hs : MS h D T K kp) (f : fr30 h h') : MS h' D T K kp := by
  obtain ⟨ok, od, hK, my, pl, lw, ev, bp, bi, nw, ka, iw, nf, wf, g, R, Z, pf, hM, ⟨t1, t2, t3⟩, hG, ⟨hN, hW⟩, hY, ⟨hR, hZ⟩, hP, hkp, hik, r⟩ := hs
  exact ⟨ok, od, hK, my, pl, lw, ev, bp, bi, nw, ka, iw, nf, wf, g, R, Z, pf, (f 30 (by decide)).trans hM, ⟨(f 31 (by decide)).trans t1, (f 32 (by decide)).trans t2, (f 33 (by decide)).trans t3⟩, (f 34 (by decide)).trans hG, ⟨(f 35 (by decide)).trans hN, (f 36 (by decide)).trans hW⟩, (f 37 (by decide)).trans hY, ⟨(f 38 (by decide)).trans hR, (f 39 (by decide)).trans hZ⟩, (f 40 (by decide)).trans hP, (f 41 (by decide)).trans hkp, (f 42 (by decide)).trans hik, r⟩
theorem MS_30 {h : x_H} {D : Dg} {T : Sg} {K kp : Nat → Nat} (hs : MS h D T K kp) : ∃ fs : List Value, h 30 = .inr (5, fs) := by
  obtain ⟨ok, od, hK, my, pl, lw, ev, bp, bi, nw, ka, iw, nf, wf, g, R, Z, pf, hM, -⟩ := hs
  exact ⟨_, hM⟩
theorem XS_fr {h h' : x_H} {D : Dg} {S : Sg} {K : Nat → Nat} {I0 I1 : Sg} (hs : XS h D S K I0 I1) (f : fr29 h h') : XS h' D S K I0 I1 := by
  refine XS_eq hs (fun k hk _ _ _ => f k hk) ?_ ?_ ?_
  · obtain ⟨i1, i2, l1, l2, l3, l4, hb⟩ := hs.2.2.2.2.2.1
    exact ⟨i1, i2, l1, l2, l3, l4, (f 9 (by decide)).trans hb⟩
  · obtain ⟨g, hg⟩ := hs.2.2.2.2.2.2.2.1
    exact ⟨g, (f 20 (by decide)).trans hg⟩
  · obtain ⟨g, hg⟩ := hs.2.2.2.2.2.2.2.2.1
    exact ⟨g, (f 21 (by decide)).trans hg⟩
/-- an image that the model keeps from b on is the class's -/
def imR (kp : Nat → Nat) (b : Nat) (I : Sg) : Prop :=
  (kp (b + 0) = I.1 ∧ kp (b + 1) = I.2.1 ∧ kp (b + 2) = I.2.2.1) ∧ (∀ j, j < I.2.2.1 → kp (b + (3 + 3 * j)) = I.2.2.2.1 j ∧ kp (b + (4 + 3 * j)) = I.2.2.2.2.1 j ∧ kp (b + (5 + 3 * j)) = I.2.2.2.2.2 j) ∧ ∀ j, j < 6 → kp (b + (3 + 3 * j)) ≤ 40 ∧ kp (b + (4 + 3 * j)) < 8 ∧ kp (b + (5 + 3 * j)) ≤ 1
def RR (h : x_H) (D : Dg) (S T : Sg) (K kp : Nat → Nat) (I0 I1 : Sg) : Prop := XS h D S K I0 I1 ∧ MS h D T K kp ∧ SE S T ∧ (K 0 ≠ 0 → imR kp 0 I0) ∧ (K 1 ≠ 0 → imR kp 30 I1)
def RX (h : x_H) : Prop := ∃ (D : Dg) (S T : Sg) (K kp : Nat → Nat) (I0 I1 : Sg), RR h D S T K kp I0 I1
/-- the two answer alike, and stand side by side behind it -/
def PR (M1 M2 : x_M) (as : List Value) (h : x_H) : Prop := ∃ a : Int32, x_Ct 20 M1 (.ref 0 :: as) h (fun r h' => r = some (.int a) ∧ (∃ fs : List Value, h' 30 = .inr (5, fs)) ∧ x_Ct 20 M2 (.ref 30 :: as) h' (fun r h'' => r = some (.int a) ∧ RX h''))
theorem PR_of {M1 M2 : x_M} {as : List Value} {h : x_H} {a : Int32} {D D' : Dg} {S S' T T' : Sg} {K K' kp kp' : Nat → Nat} {I0 I1 I0' I1' : Sg} (rr : RR h D S T K kp I0 I1) (c1 : x_Ct 20 M1 (.ref 0 :: as) h (XE h a D' S' K' I0' I1'))
    (c2 : ∀ h', MS h' D T K kp → x_Ct 20 M2 (.ref 30 :: as) h' (ME h' a D' T' K' kp')) (hR : SE S' T' ∧ (K' 0 ≠ 0 → imR kp' 0 I0') ∧ (K' 1 ≠ 0 → imR kp' 30 I1')) : PR M1 M2 as h := by
  refine ⟨a, x_Ct_mono c1 (fun r h' hq => ⟨hq.1, MS_30 (MS_fr rr.2.1 hq.2.2), x_Ct_mono (c2 h' (MS_fr rr.2.1 hq.2.2)) (fun r2 h2 hq2 => ⟨hq2.1, ?_⟩)⟩)⟩
  exact ⟨D', S', T', K', kp', I0', I1', XS_fr hq.2.1 hq2.2.2, hq2.2.1, hR⟩
theorem XG_E {h : x_H} {A : Nat → Nat → (Nat → Nat) → (Nat → Nat) → (Nat → Nat) → Int32} {D : Dg} {S : Sg} {K : Nat → Nat} {I0 I1 : Sg} {a : Int32} (h5 : ∀ x, ff D.1 D.2 = some x → a = -5) (h0 : ff D.1 D.2 = none → ∀ ak wy Fi Ca Cr, CV D S ak wy Fi Ca Cr → A ak wy Fi Ca Cr = a) :
    ∀ r h', XG h A D S K I0 I1 r h' → XE h a D S K I0 I1 r h' := by
  intro r h' hq
  obtain ⟨h1, h2, h3⟩ := hq
  refine ⟨?_, h2, h3⟩
  cases hff : ff D.1 D.2 with
  | some x => rw [hff] at h1; rw [h5 x hff]; exact h1
  | none =>
    rw [hff] at h1
    obtain ⟨ak, wy, Fi, Ca, Cr, hcv, hr⟩ := h1
    rw [h0 hff _ _ _ _ _ hcv] at hr
    exact hr
section PAIR
variable {h : x_H} {D : Dg} {S T : Sg} {K kp : Nat → Nat} {I0 I1 : Sg}
theorem pp_fault (rr : RR h D S T K kp I0 I1) : PR mX4_fault mX5_fault [] h :=
  PR_of rr (pX_fault 17 h rr.1) (fun h' hs => pM_fault 18 h' hs) rr.2.2
theorem pp_wipe (rr : RR h D S T K kp I0 I1) : PR mX4_wipe mX5_wipe [] h :=
  PR_of rr (pX_wipe 20 h rr.1) (fun h' hs => pM_wipe 20 h' hs) rr.2.2
theorem pp_say (rr : RR h D S T K kp I0 I1) (s : Int32) : PR mX4_say mX5_say [.int s] h :=
  PR_of rr (pX_say 19 h rr.1 s) (fun h' hs => pM_say 19 h' hs s) rr.2.2
theorem pp_told (rr : RR h D S T K kp I0 I1) (w : Int32) : PR mX4_told mX5_told [.int w] h := by
  have e : aTold D S w = aTold D T w := by
    unfold aTold
    rw [rr.2.2.1.1, rr.2.2.1.2.1, rr.2.2.1.2.2.1]
  refine PR_of rr (a := aTold D T w) ?_ (fun h' hs => pM_told 20 h' hs w) rr.2.2
  rw [← e]
  exact pX_told 20 h rr.1 w
theorem SE_L {v : Nat} (q : SE S T) : SE (sgL S v) (sgL T v) := ⟨rfl, q.2⟩
theorem SE_W {v : Nat} (q : SE S T) : SE (sgW S v) (sgW T v) := ⟨q.1, rfl, q.2.2⟩
theorem SE_Q0 (q : SE S T) : SE (sgQ S 0) (sgQ T 0) := ⟨q.1, q.2.1, rfl, fun k hk => absurd hk (Nat.not_lt_zero _)⟩
theorem SE_add {e p s : Nat} (q : SE S T) : SE (sgAdd S e p s) (sgAdd T e p s) := by
  refine ⟨q.1, q.2.1, ?_, fun k hk => ?_⟩
  · show S.2.2.1 + 1 = T.2.2.1 + 1
    rw [q.2.2.1]
  · have hk : k < S.2.2.1 + 1 := hk
    show csU S.2.2.2.1 S.2.2.1 e k = csU T.2.2.2.1 T.2.2.1 e k ∧ csU S.2.2.2.2.1 S.2.2.1 p k = csU T.2.2.2.2.1 T.2.2.1 p k ∧ csU S.2.2.2.2.2 S.2.2.1 s k = csU T.2.2.2.2.2 T.2.2.1 s k
    rw [← q.2.2.1]
    by_cases hkq : k = S.2.2.1
    · rw [hkq]
      exact ⟨csU_s.trans csU_s.symm, csU_s.trans csU_s.symm, csU_s.trans csU_s.symm⟩
    · obtain ⟨a, b, c⟩ := q.2.2.2 k (by omega)
      rw [csU_n hkq, csU_n hkq, csU_n hkq, csU_n hkq, csU_n hkq, csU_n hkq]
      exact ⟨a, b, c⟩
theorem pp_set (rr : RR h D S T K kp I0 I1) (w v : Int32) : PR mX4_set mX5_set [.int w, .int v] h := by
  have q := rr.2.2.1
  have e : (aSet S w v).1 = (aSet T w v).1 ∧ SE (aSet S w v).2 (aSet T w v).2 := by
    unfold aSet
    split
    · exact ⟨by rw [q.1], SE_L q⟩
    · split
      · exact ⟨by rw [q.2.1], SE_W q⟩
      · exact ⟨rfl, q⟩
  have c1 := pX_set 19 h rr.1 w v
  rw [e.1] at c1
  exact PR_of rr c1 (fun h' hs => pM_set 19 h' hs w v) ⟨e.2, rr.2.2.2⟩
theorem pp_forget (rr : RR h D S T K kp I0 I1) : PR mX4_forget mX5_forget [] h := by
  have q := rr.2.2.1
  have c1 := pX_forget 20 h rr.1
  rw [show nI S.2.2.1 = nI T.2.2.1 by rw [q.2.2.1]] at c1
  exact PR_of rr c1 (fun h' hs => pM_forget 20 h' hs) ⟨SE_Q0 q, rr.2.2.2⟩
theorem pp_sight (rr : RR h D S T K kp I0 I1) (e p : Int32) (s : Nat) (hs1 : s ≤ 1) : PR mX4_sight mX5_sight [.int e, .int p, .int (nI s)] h := by
  have q := rr.2.2.1
  have hq : (aSight S e p s).1 = (aSight T e p s).1 ∧ SE (aSight S e p s).2 (aSight T e p s).2 := by
    unfold aSight
    rw [q.2.2.1]
    split
    · split
      · split
        · exact ⟨rfl, SE_add q⟩
        · exact ⟨rfl, q⟩
      · exact ⟨rfl, q⟩
    · exact ⟨rfl, q⟩
  have c1 := pX_sight 19 h rr.1 e p s hs1
  rw [hq.1] at c1
  exact PR_of rr c1 (fun h' hs => pM_sight 18 h' hs e p s hs1) ⟨hq.2, rr.2.2.2⟩
theorem pp_stands (rr : RR h D S T K kp I0 I1) (e p : Int32) : PR mX4_stands mX5_stands [.int e, .int p] h := by
  refine PR_of rr (pX_stands 15 h rr.1 e p) (fun h' hs => ?_) rr.2.2
  rw [rr.2.2.1.1, rr.2.2.1.2.1, ← q_stands]
  exact pM_stands 16 h' hs e p
theorem pp_stood (rr : RR h D S T K kp I0 I1) (v : Int32) : PR mX4_stood mX5_stood [.int v] h := by
  refine PR_of rr (pX_stood 15 h rr.1 v) (fun h' hs => ?_) rr.2.2
  rw [rr.2.2.1.2.1, ← q_stood]
  exact pM_stood 16 h' hs v
theorem pp_gone (rr : RR h D S T K kp I0 I1) (v : Int32) : PR mX4_gone mX5_gone [.int v] h := by
  refine PR_of rr (pX_gone 15 h rr.1 v) (fun h' hs => ?_) rr.2.2
  rw [rr.2.2.1.1, rr.2.2.1.2.1, ← q_gone _ _ _ _ _ hs.1.1]
  exact pM_gone 16 h' hs v
theorem pp_out (rr : RR h D S T K kp I0 I1) (v : Int32) : PR mX4_out mX5_out [.int v] h := by
  refine PR_of rr (pX_out 15 h rr.1 v) (fun h' hs => ?_) rr.2.2
  rw [rr.2.2.1.1, rr.2.2.1.2.1, ← q_out]
  exact pM_out 16 h' hs v
theorem pp_drawn (rr : RR h D S T K kp I0 I1) (s m p : Int32) : PR mX4_drawn mX5_drawn [.int s, .int m, .int p] h := by
  refine PR_of rr (pX_drawn 15 h rr.1 s m p) (fun h' hs => ?_) rr.2.2
  rw [rr.2.2.1.1, rr.2.2.1.2.1, ← q_drawn]
  exact pM_drawn 16 h' hs s m p
theorem pp_read (rr : RR h D S T K kp I0 I1) (v : Int32) : PR mX4_read mX5_read [.int v] h := by
  refine PR_of rr (pX_read 15 h rr.1 v) (fun h' hs => ?_) rr.2.2
  obtain ⟨R, Z, -, c⟩ := pM_read 16 h' hs v
  rw [rr.2.2.1.1, rr.2.2.1.2.1, ← q_read _ _ _ _ R Z]
  exact c
theorem pp_seen (rr : RR h D S T K kp I0 I1) (v : Int32) : PR mX4_seen mX5_seen [.int v] h := by
  refine PR_of rr (pX_seen 15 h rr.1 v) (fun h' hs => ?_) rr.2.2
  obtain ⟨R, Z, -, c⟩ := pM_seen 16 h' hs v
  rw [rr.2.2.1.1, rr.2.2.1.2.1, ← q_seen _ _ _ _ R Z]
  exact c
theorem pp_missed (rr : RR h D S T K kp I0 I1) (v : Int32) : PR mX4_missed mX5_missed [.int v] h := by
  refine PR_of rr (pX_missed 15 h rr.1 v) (fun h' hs => ?_) rr.2.2
  obtain ⟨R, Z, -, c⟩ := pM_missed 16 h' hs v
  rw [rr.2.2.1.1, rr.2.2.1.2.1, ← q_missed _ _ _ _ R Z _ hs.2.1.1]
  exact c
theorem pp_best (rr : RR h D S T K kp I0 I1) (v : Int32) : PR mX4_best mX5_best [.int v] h := by
  refine PR_of rr (pX_best 15 h rr.1 v) (fun h' hs => ?_) rr.2.2
  obtain ⟨R, Z, -, c⟩ := pM_best 16 h' hs v
  rw [rr.2.2.1.2.1, ← q_best _ _ _ R Z _ hs.2.1.1]
  exact c
theorem pp_look (rr : RR h D S T K kp I0 I1) (v : Int32) : PR mX4_look mX5_look [.int v] h := by
  refine PR_of rr (pX_look 15 h rr.1 v) (fun h' hs => ?_) rr.2.2
  obtain ⟨R, Z, -, c⟩ := pM_look 15 h' hs v
  rw [rr.2.2.1.1, rr.2.2.1.2.1, ← q_look _ _ _ _ R Z _ hs.2.1.1]
  exact c
theorem pp_cross (rr : RR h D S T K kp I0 I1) (p v : Int32) : PR mX4_cross mX5_cross [.int p, .int v] h := by
  refine PR_of rr (pX_cross 14 h rr.1 p v) (fun h' hs => ?_) rr.2.2
  obtain ⟨R, Z, -, c⟩ := pM_cross 15 h' hs p v
  rw [rr.2.2.1.1, rr.2.2.1.2.1, ← q_cross _ _ _ _ R Z _ _ hs.2.1.1]
  exact c
theorem pp_unseen (rr : RR h D S T K kp I0 I1) (p : Int32) : PR mX4_unseen mX5_unseen [.int p] h := by
  refine PR_of rr (pX_unseen 14 h rr.1 p) (fun h' hs => ?_) rr.2.2
  obtain ⟨R, Z, -, c⟩ := pM_unseen 15 h' hs p
  rw [rr.2.2.1.1, rr.2.2.1.2.1, ← q_unseen _ _ _ _ R Z _ hs.2.1.1]
  exact c
theorem pp_looks (rr : RR h D S T K kp I0 I1) (v : Int32) : PR mX4_looks mX5_looks [.int v] h := by
  obtain ⟨g, c1⟩ := pX_looks 14 h rr.1 v
  refine PR_of rr c1 (fun h' hs => ?_) rr.2.2
  obtain ⟨Z, -, c⟩ := pM_looks 16 h' hs v
  rw [rr.2.2.1.1, rr.2.2.1.2.1, ← q_looks _ _ _ _ g Z _ hs.2.1.1]
  exact c
theorem pp_hired (rr : RR h D S T K kp I0 I1) (m p v : Int32) : PR mX4_hired mX5_hired [.int m, .int p, .int v] h := by
  obtain ⟨g, c1⟩ := pX_hired 14 h rr.1 m p v
  refine PR_of rr c1 (fun h' hs => ?_) rr.2.2
  rw [rr.2.2.1.1, rr.2.2.1.2.1, ← q_hired _ _ _ _ g]
  refine pM_hired 16 h' hs m p v _ _ (fun hp _ hoc h6 => q_hrP hoc hs.1.1 ?_ h6)
  obtain ⟨q, hq, -, e⟩ := isP_of hp
  rw [e]
  exact hq
theorem pp_fits (rr : RR h D S T K kp I0 I1) (v : Int32) : PR mX4_fits mX5_fits [.int v] h := by
  refine PR_of rr (x_Ct_mono (pX_fits 10 h rr.1 v) (XG_E (a := aFitsM D T v) (fun x hx => by unfold aFitsM; rw [hx]) (fun h0 ak wy Fi Ca Cr hcv => (q_fits rr.2.1.2.1 rr.1.2.2.1.2 rr.2.2.1 h0 hcv v).symm))) (fun h' hs => pM_fits 15 h' hs v) rr.2.2
theorem pp_could (rr : RR h D S T K kp I0 I1) (v : Int32) : PR mX4_could mX5_could [.int v] h := by
  refine PR_of rr (x_Ct_mono (pX_could 10 h rr.1 v) (XG_E (a := aCouldM D T v) (fun x hx => by unfold aCouldM; rw [hx]) (fun h0 ak wy Fi Ca Cr hcv => (q_could rr.2.1.2.1 rr.1.2.2.1.2 rr.2.2.1 h0 hcv v).symm))) (fun h' hs => pM_could 15 h' hs v) rr.2.2
theorem pp_alibi (rr : RR h D S T K kp I0 I1) (v : Int32) : PR mX4_alibi mX5_alibi [.int v] h := by
  by_cases hp : 0 ≤ v ∧ v < 8
  · refine PR_of rr (x_Ct_mono (pX_alibi 10 h rr.1 v hp) (XG_E (a := aAlibiM D T v) (fun x hx => by unfold aAlibiM; rw [if_pos hp, hx]) (fun h0 ak wy Fi Ca Cr hcv => (q_alibi rr.2.1.2.1 rr.1.2.2.1.2 rr.2.2.1 h0 hcv v hp).symm))) (fun h' hs => pM_alibi 15 h' hs v) rr.2.2
  · refine PR_of rr (pX_alibi_no 10 h rr.1 v hp) (fun h' hs => ?_) rr.2.2
    have e : aAlibiM D T v = -1 := by unfold aAlibiM; rw [if_neg hp]
    rw [← e]
    exact pM_alibi 15 h' hs v
theorem kC_at {T : Sg} {kp : Nat → Nat} {b i : Nat} (hi : i < 21) : prK b 21 (kCode T) kp (b + i) = kCode T i := by
  unfold prK
  rw [if_pos (by omega), Nat.add_sub_cancel_left]
theorem imR_new {b : Nat} {I : Sg} (q : SE S T) (oT : okSg T) : imR (prK b 21 (kCode T) kp) b (sgCp S I) := by
  have h6 : S.2.2.1 ≤ 6 := by rw [q.2.2.1]; exact oT.2.2.2.1
  refine ⟨⟨?_, ?_, ?_⟩, fun j hj => ?_, fun j hj => ?_⟩
  · rw [kC_at (by omega)]; exact q.1.symm
  · rw [kC_at (by omega)]; exact q.2.1.symm
  · rw [kC_at (by omega)]; exact q.2.2.1.symm
  · have hj : j < S.2.2.1 := hj
    obtain ⟨a, b, c⟩ := q.2.2.2 j hj
    rw [kC_at (by omega), kC_at (by omega), kC_at (by omega), kCode_0, kCode_1, kCode_2, ← a, ← b, ← c]
    show _ = mixN S.2.2.1 S.2.2.2.1 I.2.2.2.1 j ∧ _ = mixN S.2.2.1 S.2.2.2.2.1 I.2.2.2.2.1 j ∧ _ = mixN S.2.2.1 S.2.2.2.2.2 I.2.2.2.2.2 j
    unfold mixN
    rw [if_pos hj, if_pos hj, if_pos hj]
    exact ⟨rfl, rfl, rfl⟩
  · rw [kC_at (by omega), kC_at (by omega), kC_at (by omega), kCode_0, kCode_1, kCode_2]
    exact ⟨oT.2.2.2.2.1 j, oT.2.2.2.2.2.1 j, oT.2.2.2.2.2.2 j⟩
theorem imR_old {b b' : Nat} {I : Sg} (h6 : I.2.2.1 ≤ 6) (hb : b + 21 ≤ b' ∨ b' + 21 ≤ b) (hi : imR kp b I) : imR (prK b' 21 (kCode T) kp) b I := by
  have o : ∀ i, i < 21 → prK b' 21 (kCode T) kp (b + i) = kp (b + i) := fun i h => by
    unfold prK
    rw [if_neg (by omega)]
  obtain ⟨⟨a, b, c⟩, d, e⟩ := hi
  refine ⟨⟨by rw [o _ (by omega)]; exact a, by rw [o _ (by omega)]; exact b, by rw [o _ (by omega)]; exact c⟩, fun j hj => ?_, fun j hj => ?_⟩
  · rw [o _ (by omega), o _ (by omega), o _ (by omega)]
    exact d j hj
  · rw [o _ (by omega), o _ (by omega), o _ (by omega)]
    exact e j hj
theorem imR_back {b : Nat} {I : Sg} (oI : okSg I) (oT : okSg T) (hi : imR kp b I) : okSg (sgP (fun i => kp (b + i)) T) ∧ SE (sgCp I S) (sgP (fun i => kp (b + i)) T) := by
  obtain ⟨⟨a, b', c⟩, d, e⟩ := hi
  have mx : ∀ {P : Nat → Prop} (f g : Nat → Nat), (∀ j, j < 6 → P (f j)) → (∀ j, P (g j)) → ∀ j, P (mixN 6 f g j) := by
    intro P f g h1 h2 j
    unfold mixN
    split
    · rename_i hj; exact h1 j hj
    · exact h2 j
  refine ⟨⟨?_, ?_, ?_, ?_, ?_, ?_, ?_⟩, ?_, ?_, ?_, fun k hk => ?_⟩
  · show 1 ≤ kp (b + 0); rw [a]; exact oI.1
  · show kp (b + 0) ≤ 9; rw [a]; exact oI.2.1
  · show kp (b + 1) ≤ 2; rw [b']; exact oI.2.2.1
  · show kp (b + 2) ≤ 6; rw [c]; exact oI.2.2.2.1
  · exact mx (P := fun x => x ≤ 40) _ _ (fun j hj => (e j hj).1) oT.2.2.2.2.1
  · exact mx (P := fun x => x < 8) _ _ (fun j hj => (e j hj).2.1) oT.2.2.2.2.2.1
  · exact mx (P := fun x => x ≤ 1) _ _ (fun j hj => (e j hj).2.2) oT.2.2.2.2.2.2
  · show I.1 = kp (b + 0); exact a.symm
  · show I.2.1 = kp (b + 1); exact b'.symm
  · show I.2.2.1 = kp (b + 2); exact c.symm
  · have hk : k < I.2.2.1 := hk
    have h6 : k < 6 := by have := oI.2.2.2.1; omega
    obtain ⟨u, v, z⟩ := d k hk
    show mixN I.2.2.1 I.2.2.2.1 S.2.2.2.1 k = mixN 6 (fun k => kp (b + (3 + 3 * k))) T.2.2.2.1 k ∧ mixN I.2.2.1 I.2.2.2.2.1 S.2.2.2.2.1 k = mixN 6 (fun k => kp (b + (4 + 3 * k))) T.2.2.2.2.1 k ∧ mixN I.2.2.1 I.2.2.2.2.2 S.2.2.2.2.2 k = mixN 6 (fun k => kp (b + (5 + 3 * k))) T.2.2.2.2.2 k
    unfold mixN
    rw [if_pos hk, if_pos hk, if_pos hk, if_pos h6, if_pos h6, if_pos h6]
    exact ⟨u.symm, v.symm, z.symm⟩
theorem pp_image (rr : RR h D S T K kp I0 I1) (n : Int32) : PR mX4_image mX5_image [.int n] h := by
  have c1 := pX_image 18 h rr.1 n
  have c2 := fun h' (hs : MS h' D T K kp) => pM_image 18 h' hs n
  have q := rr.2.2.1
  have o0 := rr.1.2.2.2.2.2.2.2.2.2.1.2
  have o1 := rr.1.2.2.2.2.2.2.2.2.2.2.2
  by_cases h0 : n = 0
  · have e1 : aImage S K I0 I1 n = (1, csU K 0 1, sgCp S I0, I1) := by unfold aImage; rw [if_pos h0]
    have e2 : aImM T K kp n = (1, csU K 0 1, prK 0 21 (kCode T) kp) := by unfold aImM; rw [if_pos h0]
    rw [e1] at c1
    simp only [e2] at c2
    refine PR_of rr c1 c2 ⟨q, fun _ => imR_new q rr.2.1.1, fun hk => imR_old o1.2.2.2.1 (by omega) (rr.2.2.2.2 ?_)⟩
    exact hk
  · by_cases h1 : n = 1
    · have e1 : aImage S K I0 I1 n = (1, csU K 1 1, I0, sgCp S I1) := by unfold aImage; rw [if_neg h0, if_pos h1]
      have e2 : aImM T K kp n = (1, csU K 1 1, prK 30 21 (kCode T) kp) := by unfold aImM; rw [if_neg h0, if_pos h1]
      rw [e1] at c1
      simp only [e2] at c2
      refine PR_of rr c1 c2 ⟨q, fun hk => imR_old o0.2.2.2.1 (by omega) (rr.2.2.2.1 ?_), fun _ => imR_new q rr.2.1.1⟩
      exact hk
    · have e1 : aImage S K I0 I1 n = (-2, K, I0, I1) := by unfold aImage; rw [if_neg h0, if_neg h1]
      have e2 : aImM T K kp n = (-2, K, kp) := by unfold aImM; rw [if_neg h0, if_neg h1]
      rw [e1] at c1
      simp only [e2] at c2
      exact PR_of rr c1 c2 rr.2.2
theorem pp_restore (rr : RR h D S T K kp I0 I1) (n : Int32) : PR mX4_restore mX5_restore [.int n] h := by
  have c1 := pX_restore 18 h rr.1 n
  have q := rr.2.2.1
  have oT := rr.2.1.1
  have o0 := rr.1.2.2.2.2.2.2.2.2.2.1.2
  have o1 := rr.1.2.2.2.2.2.2.2.2.2.2.2
  have c2 := fun h' (hs : MS h' D T K kp) => pM_restore 18 h' hs n (fun k hk hK => by
    rcases (show k = 0 ∨ k = 1 by omega) with rfl | rfl
    · exact (imR_back (S := S) o0 oT (rr.2.2.2.1 hK)).1
    · exact (imR_back (S := S) o1 oT (rr.2.2.2.2 hK)).1)
  by_cases h0 : n = 0
  · by_cases hk : K 0 = 0
    · have e1 : aRestore S K I0 I1 n = (-3, S) := by unfold aRestore; rw [if_pos h0, if_pos hk]
      have e2 : aRsM T K kp n = (-3, T) := by unfold aRsM; rw [if_pos h0, if_pos hk]
      rw [e1] at c1
      simp only [e2] at c2
      exact PR_of rr c1 c2 rr.2.2
    · have e1 : aRestore S K I0 I1 n = (1, sgCp I0 S) := by unfold aRestore; rw [if_pos h0, if_neg hk]
      have e2 : aRsM T K kp n = (1, sgP (fun i => kp (0 + i)) T) := by unfold aRsM; rw [if_pos h0, if_neg hk]
      rw [e1] at c1
      simp only [e2] at c2
      exact PR_of rr c1 c2 ⟨(imR_back o0 oT (rr.2.2.2.1 hk)).2, rr.2.2.2⟩
  · by_cases h1 : n = 1
    · by_cases hk : K 1 = 0
      · have e1 : aRestore S K I0 I1 n = (-3, S) := by unfold aRestore; rw [if_neg h0, if_pos h1, if_pos hk]
        have e2 : aRsM T K kp n = (-3, T) := by unfold aRsM; rw [if_neg h0, if_pos h1, if_pos hk]
        rw [e1] at c1
        simp only [e2] at c2
        exact PR_of rr c1 c2 rr.2.2
      · have e1 : aRestore S K I0 I1 n = (1, sgCp I1 S) := by unfold aRestore; rw [if_neg h0, if_pos h1, if_neg hk]
        have e2 : aRsM T K kp n = (1, sgP (fun i => kp (30 + i)) T) := by unfold aRsM; rw [if_neg h0, if_pos h1, if_neg hk]
        rw [e1] at c1
        simp only [e2] at c2
        exact PR_of rr c1 c2 ⟨(imR_back o1 oT (rr.2.2.2.2 hk)).2, rr.2.2.2⟩
    · have e1 : aRestore S K I0 I1 n = (-2, S) := by unfold aRestore; rw [if_neg h0, if_neg h1]
      have e2 : aRsM T K kp n = (-2, T) := by unfold aRsM; rw [if_neg h0, if_neg h1]
      rw [e1] at c1
      simp only [e2] at c2
      exact PR_of rr c1 c2 rr.2.2
end PAIR
