theorem x_nI_clamp {i : Int32} {j n : Nat} (hi : i = nI j) (hj : j < n) (hn : n < 2 ^ 31) : vp_in i n ∧ i.toNatClampNeg = j := by
  subst hi
  exact ⟨vp_in_nI hj hn, nI_clamp (by omega)⟩
section XV2
variable {d : Nat} {M : x_M} {pc : Nat} {ls : x_L} {st : List Value} {h : x_H} {Q : Option Value → x_H → Prop}
theorem x_iald {k n : Nat} {f : Nat → Int32} {i : Int32} (j : Nat) (hd : decode M.2.1 pc = .ok (.iaload, 1)) (hk : k < x_N) (hc : h k = .inl (0, n, .inl f)) (hi : i = nI j) (hj : j < n) (hn : n < 2 ^ 31) (k0 : x_V d M (pc + 1) ls (.int (f j) :: st) h Q) : x_V d M pc ls (.int i :: .ref k :: st) h Q := by
  intro p l e s m args below meth c D dA ad A lsc H locs E Wd Lc
  have k1 := k0 p l e s m args below meth c D dA ad A lsc H locs E Wd Lc
  obtain ⟨hin, hcl⟩ := x_nI_clamp hi hj hn
  rw [← hcl] at k1
  have he : (x_w dA ad h)[k]? = some (ad k, .inl (dA 0, n, .inl f)) := by rw [x_w_get hk, hc]; rfl
  exact va_iald E.1 E.2.1 E.2.2.2.2.2.2.2.1 Wd.2.2.1 k 0 he rfl hin hd k1
theorem x_zald {k n : Nat} {f : Nat → Int32} {i : Int32} (j : Nat) (hd : decode M.2.1 pc = .ok (.baload, 1)) (hk : k < x_N) (hc : h k = .inl (1, n, .inl f)) (hi : i = nI j) (hj : j < n) (hn : n < 2 ^ 31) (k0 : x_V d M (pc + 1) ls (.int (f j) :: st) h Q) : x_V d M pc ls (.int i :: .ref k :: st) h Q := by
  intro p l e s m args below meth c D dA ad A lsc H locs E Wd Lc
  have k1 := k0 p l e s m args below meth c D dA ad A lsc H locs E Wd Lc
  obtain ⟨hin, hcl⟩ := x_nI_clamp hi hj hn
  rw [← hcl] at k1
  have he : (x_w dA ad h)[k]? = some (ad k, .inl (dA 1, n, .inl f)) := by rw [x_w_get hk, hc]; rfl
  exact va_zald E.1 E.2.1 E.2.2.2.2.2.2.2.1 Wd.2.2.1 k 1 he rfl hin hd k1
theorem x_lald {k n : Nat} {f : Nat → Int64} {i : Int32} (j : Nat) (hd : decode M.2.1 pc = .ok (.laload, 1)) (hk : k < x_N) (hc : h k = .inl (2, n, .inr (.inl f))) (hi : i = nI j) (hj : j < n) (hn : n < 2 ^ 31) (k0 : x_V d M (pc + 1) ls (.long (f j) :: st) h Q) : x_V d M pc ls (.int i :: .ref k :: st) h Q := by
  intro p l e s m args below meth c D dA ad A lsc H locs E Wd Lc
  have k1 := k0 p l e s m args below meth c D dA ad A lsc H locs E Wd Lc
  obtain ⟨hin, hcl⟩ := x_nI_clamp hi hj hn
  rw [← hcl] at k1
  have he : (x_w dA ad h)[k]? = some (ad k, .inl (dA 2, n, .inr (.inl f))) := by rw [x_w_get hk, hc]; rfl
  exact va_lald E.1 E.2.1 E.2.2.2.2.2.2.2.1 Wd.2.2.1 k 2 he rfl hin hd k1
theorem x_aald {k n : Nat} {f : Nat → Option Nat} {i : Int32} {r : Nat} (j : Nat) (hd : decode M.2.1 pc = .ok (.aaload, 1)) (hk : k < x_N) (hc : h k = .inl (3, n, .inr (.inr (.inr (.inr f))))) (hi : i = nI j) (hj : j < n) (hn : n < 2 ^ 31) (hr : f j = some r) (k0 : x_V d M (pc + 1) ls (.ref r :: st) h Q) : x_V d M pc ls (.int i :: .ref k :: st) h Q := by
  intro p l e s m args below meth c D dA ad A lsc H locs E Wd Lc
  have k1 := k0 p l e s m args below meth c D dA ad A lsc H locs E Wd Lc
  obtain ⟨hin, hcl⟩ := x_nI_clamp hi hj hn
  have he : (x_w dA ad h)[k]? = some (ad k, .inl (dA 3, n, .inr (.inr (.inr (.inr (fun j => (f j).map ad)))))) := by rw [x_w_get hk, hc]; rfl
  refine va_aldq E.1 E.2.1 E.2.2.2.2.2.2.2.1 Wd.2.2.1 k 3 he rfl hin hd ?_
  have e9 : va_rf ((f i.toNatClampNeg).map ad) = .ref (ad r) := by rw [hcl, hr]; rfl
  show W p l e (x_rm d) s m args below meth c H locs 0 0 _ (F0 m (pc + 1) lsc (va_rf ((f i.toNatClampNeg).map ad) :: st.map (x_t ad)))
  rw [e9]
  exact k1
theorem x_iast {k n : Nat} {f : Nat → Int32} {i : Int32} {x : Int32} (j : Nat) (hd : decode M.2.1 pc = .ok (.iastore, 1)) (hk : k < x_N) (hc : h k = .inl (0, n, .inl f)) (hi : i = nI j) (hj : j < n) (hn : n < 2 ^ 31) (k0 : x_V d M (pc + 1) ls st (x_up h k (.inl (0, n, .inl (upd f j x)))) Q) : x_V d M pc ls (.int x :: .int i :: .ref k :: st) h Q := by
  intro p l e s m args below meth c D dA ad A lsc H locs E Wd Lc
  obtain ⟨hin, hcl⟩ := x_nI_clamp hi hj hn
  have he : (x_w dA ad h)[k]? = some (ad k, .inl (dA 0, n, .inl f)) := by rw [x_w_get hk, hc]; rfl
  have hset : (x_w dA ad h).set k (ad k, .inl (dA 0, n, .inl (upd f j x))) = x_w dA ad (x_up h k (.inl (0, n, .inl (upd f j x)))) := x_w_set (c := .inl (0, n, .inl (upd f j x))) hk
  refine va_iast E.1 E.2.1 E.2.2.2.2.2.2.2.1 Wd.2.2.1 Wd.1 Wd.2.1 k 0 he rfl hin hd (fun H1 locs1 hP1 hD1 hS1 => ?_)
  rw [hcl, hset] at hP1 hD1
  exact k0 p l e s m args below meth c D dA ad A lsc H1 locs1 E ⟨hD1, hS1, hP1, Wd.2.2.2⟩ Lc
theorem x_zast {k n : Nat} {f : Nat → Int32} {i : Int32} {x : Int32} (j : Nat) (hd : decode M.2.1 pc = .ok (.bastore, 1)) (hk : k < x_N) (hc : h k = .inl (1, n, .inl f)) (hi : i = nI j) (hj : j < n) (hn : n < 2 ^ 31) (hx : vp_nar .boolean x = x) (k0 : x_V d M (pc + 1) ls st (x_up h k (.inl (1, n, .inl (upd f j x)))) Q) : x_V d M pc ls (.int x :: .int i :: .ref k :: st) h Q := by
  intro p l e s m args below meth c D dA ad A lsc H locs E Wd Lc
  obtain ⟨hin, hcl⟩ := x_nI_clamp hi hj hn
  have he : (x_w dA ad h)[k]? = some (ad k, .inl (dA 1, n, .inl f)) := by rw [x_w_get hk, hc]; rfl
  have hset : (x_w dA ad h).set k (ad k, .inl (dA 1, n, .inl (upd f j x))) = x_w dA ad (x_up h k (.inl (1, n, .inl (upd f j x)))) := x_w_set (c := .inl (1, n, .inl (upd f j x))) hk
  refine va_zast E.1 E.2.1 E.2.2.2.2.2.2.2.1 Wd.2.2.1 Wd.1 Wd.2.1 k 1 he rfl hin hd (fun H1 locs1 hP1 hD1 hS1 => ?_)
  rw [hx, hcl, hset] at hP1 hD1
  exact k0 p l e s m args below meth c D dA ad A lsc H1 locs1 E ⟨hD1, hS1, hP1, Wd.2.2.2⟩ Lc
theorem x_last {k n : Nat} {f : Nat → Int64} {i : Int32} {x : Int64} (j : Nat) (hd : decode M.2.1 pc = .ok (.lastore, 1)) (hk : k < x_N) (hc : h k = .inl (2, n, .inr (.inl f))) (hi : i = nI j) (hj : j < n) (hn : n < 2 ^ 31) (k0 : x_V d M (pc + 1) ls st (x_up h k (.inl (2, n, .inr (.inl (vp_updL f j x))))) Q) : x_V d M pc ls (.long x :: .int i :: .ref k :: st) h Q := by
  intro p l e s m args below meth c D dA ad A lsc H locs E Wd Lc
  obtain ⟨hin, hcl⟩ := x_nI_clamp hi hj hn
  have he : (x_w dA ad h)[k]? = some (ad k, .inl (dA 2, n, .inr (.inl f))) := by rw [x_w_get hk, hc]; rfl
  have hset : (x_w dA ad h).set k (ad k, .inl (dA 2, n, .inr (.inl (vp_updL f j x)))) = x_w dA ad (x_up h k (.inl (2, n, .inr (.inl (vp_updL f j x))))) := x_w_set (c := .inl (2, n, .inr (.inl (vp_updL f j x)))) hk
  refine va_last E.1 E.2.1 E.2.2.2.2.2.2.2.1 Wd.2.2.1 Wd.1 Wd.2.1 k 2 he rfl hin hd (fun H1 locs1 hP1 hD1 hS1 => ?_)
  rw [hcl, hset] at hP1 hD1
  exact k0 p l e s m args below meth c D dA ad A lsc H1 locs1 E ⟨hD1, hS1, hP1, Wd.2.2.2⟩ Lc
theorem x_alen {k n : Nat} {z : Nat} {y : (Nat → Int32) ⊕ (Nat → Int64) ⊕ (Nat → UInt32) ⊕ (Nat → UInt64) ⊕ (Nat → Option Nat)} (hd : decode M.2.1 pc = .ok (.arraylength, 1)) (hk : k < x_N) (hc : h k = .inl (z, n, y)) (hz : z < 4) (k0 : x_V d M (pc + 1) ls (.int (nI n) :: st) h Q) : x_V d M pc ls (.ref k :: st) h Q := by
  intro p l e s m args below meth c D dA ad A lsc H locs E Wd Lc
  have k1 := k0 p l e s m args below meth c D dA ad A lsc H locs E Wd Lc
  have he : (x_w dA ad h)[k]? = some (ad k, .inl (dA z, x_a ad (n, y))) := by rw [x_w_get hk, hc]; rfl
  have hy : (x_a ad (n, y)).1 = n := by
    rcases y with f | f | f | f | f <;> rfl
  have ht : ∃ ty, (x_tys dA)[z]? = some (dA z, ty) := by
    rcases (show z = 0 ∨ z = 1 ∨ z = 2 ∨ z = 3 by omega) with rfl | rfl | rfl | rfl <;> exact ⟨_, rfl⟩
  obtain ⟨ty, ht⟩ := ht
  exact va_alen E.1 E.2.1 E.2.2.2.2.2.2.2.1 Wd.2.2.1 k z he ht (by rw [hy]; rfl) hd k1
theorem x_iret {v : Int32} (hd : decode M.2.1 pc = .ok (.ireturn, 1)) (hr : M.2.2.2 = some .int) (hq : Q (some (.int v)) h) : x_V d M pc ls [.int v] h Q := by
  intro p l e s m args below meth c D dA ad A lsc H locs E Wd Lc
  exact W.iret E.1 E.2.1 (E.2.2.1.trans hr) (fun t ht hW => ⟨⟨some (.int v), h, rfl, hq, by rw [ht]; exact Wd.2.2.1⟩, Wd.2.1.F ht⟩) Wd.2.1.2.2 hd E.2.2.2.2.2.2.1
theorem x_zret {v : Int32} (hd : decode M.2.1 pc = .ok (.ireturn, 1)) (hr : M.2.2.2 = some .boolean) (hn : narrow .boolean (.int v) = .int v) (hq : Q (some (.int v)) h) : x_V d M pc ls [.int v] h Q := by
  intro p l e s m args below meth c D dA ad A lsc H locs E Wd Lc
  exact W.zret E.1 E.2.1 (E.2.2.1.trans hr) hn (fun t ht hW => ⟨⟨some (.int v), h, rfl, hq, by rw [ht]; exact Wd.2.2.1⟩, Wd.2.1.F ht⟩) Wd.2.1.2.2 hd E.2.2.2.2.2.2.1
theorem x_lret {v : Int64} (hd : decode M.2.1 pc = .ok (.lreturn, 1)) (hr : M.2.2.2 = some .long) (hq : Q (some (.long v)) h) : x_V d M pc ls [.long v] h Q := by
  intro p l e s m args below meth c D dA ad A lsc H locs E Wd Lc
  exact W.lret E.1 E.2.1 (E.2.2.1.trans hr) (fun t ht hW => ⟨⟨some (.long v), h, rfl, hq, by rw [ht]; exact Wd.2.2.1⟩, Wd.2.1.F ht⟩) Wd.2.1.2.2 hd E.2.2.2.2.2.2.1
theorem x_vret (hd : decode M.2.1 pc = .ok (.return_, 1)) (hr : M.2.2.2 = none) (hq : Q none h) : x_V d M pc ls [] h Q := by
  intro p l e s m args below meth c D dA ad A lsc H locs E Wd Lc
  exact W.vret E.1 E.2.1 (E.2.2.1.trans hr) (fun t ht hW => ⟨⟨none, h, rfl, hq, by rw [ht]; exact Wd.2.2.1⟩, Wd.2.1.F ht⟩) Wd.2.1.2.2 hd E.2.2.2.2.2.2.1
theorem x_tabIn {dflt lo hi : Int} {offs : Array Int} {len : Nat} {x : Int32} {off : Int} (tgt : Nat) (hd : decode M.2.1 pc = .ok (.tableswitch dflt lo hi offs, len)) (h1 : ¬ x.toInt < lo) (h2 : ¬ hi < x.toInt) (ho : offs[(x.toInt - lo).toNat]? = some off) (ht : (pc : Int) + off = (tgt : Int)) (k : x_V d M tgt ls st h Q) : x_V d M pc ls (.int x :: st) h Q := by
  intro p l e s m args below meth c D dA ad A lsc H locs E Wd Lc
  exact lv_tableIn E.1 E.2.1 hd h1 h2 ho ht (k p l e s m args below meth c D dA ad A lsc H locs E Wd Lc)
theorem x_tabOut {dflt lo hi : Int} {offs : Array Int} {len : Nat} {x : Int32} (tgt : Nat) (hd : decode M.2.1 pc = .ok (.tableswitch dflt lo hi offs, len)) (h1 : x.toInt < lo ∨ hi < x.toInt) (ht : (pc : Int) + dflt = (tgt : Int)) (k : x_V d M tgt ls st h Q) : x_V d M pc ls (.int x :: st) h Q := by
  intro p l e s m args below meth c D dA ad A lsc H locs E Wd Lc
  exact lv_tableOut E.1 E.2.1 hd h1 ht (k p l e s m args below meth c D dA ad A lsc H locs E Wd Lc)
/-- what is known of a method that is called -/
def x_CB (M' : x_M) (n : Nat) : Prop := Cond.code M'.1 M'.2.1 M'.2.2.1 M'.2.2.2 ∈ x_base ∧ Cond.initialized M'.1.cls ∈ x_base ∧ (M'.1.cls ≠ "java/lang/invoke/MethodHandle" ∧ M'.1.cls ≠ "java/lang/invoke/VarHandle" ∧ (parseMethodDescriptor M'.1.desc).map (fun d => d.parameters.length) = some n) ∧ M'.2.2.1 ≤ 21
def x_CV (own : String) (idx : Nat) (M' : x_M) (ci n : Nat) : Prop := x_CB M' n ∧ Cond.methodLink own idx M'.1 ∈ x_base ∧ Cond.instanceMethod M'.1 ∈ x_base ∧ Cond.selects M'.1.cls M'.1 M'.1 ∈ x_base ∧ ∃ q : vw_C, vwCl[ci]? = some q ∧ q.1 = M'.1.cls
def x_CS (own : String) (idx : Nat) (M' : x_M) (n : Nat) : Prop := x_CB M' n ∧ (Cond.methodLink own idx M'.1 ∈ x_base ∨ ∃ host, Cond.methodLinkNest own idx M'.1 host ∈ x_nest) ∧ Cond.static M'.1 ∈ x_base
theorem x_blind (D : va_G) (dA : Nat → ClassId) (ad : Nat → Nat) (as : List Value) (h : x_H) (sz : Nat) : FrameBlind (x_Pm D dA ad as h sz) := by
  intro a U g mk q
  obtain ⟨e, hsz, hP, hK, hD⟩ := q
  exact ⟨e, hsz, hP, ⟨va_K.moved (u := U) (U := U.calling g mk a) (Vm.Alike.refl U.vm) hK.1, x_nest_same (u := U) (U := U.calling g mk a) rfl hK.2⟩, hD⟩
theorem x_back {p : Program} {l : Launch} {e : Env} {s : State} {m : MethodId} {args : Array Value} {below : List Frame} {meth : Method} {c : Code} {D : va_G} {dA : Nat → ClassId} {ad : Nat → Nat} {A : Nat → Prop} {lsc : Array Slot} {H : Heap} {locs : List Loc} {st0 : List Value} {a : Array Value} {Q' : Option Value → x_H → Prop}
    (E : x_Ev M p s m args meth c D dA) (Wd : x_Wd D dA ad A h s H locs) (Lc : x_Lc ad ls M.2.2.1 lsc) (hr : va_Run p l e (x_rm d) s m args below meth c H locs 0 0 0 0 (F0 m pc lsc st0) (st.map (x_t ad)) (x_Qm D dA ad (va_A (x_w dA ad h) H.size) Q' a) (va_A (x_w dA ad h) H.size))
    (kk : ∀ r h', Q' r h' → x_V d M (pc + 3) ls (r.toList ++ st) h' Q) : W p l e (x_rm d) s m args below meth c H locs 0 0 (MQ below (x_Qm D dA ad A Q) args s 0 0 A) (F0 m pc lsc st0) := by
  intro T hT X
  obtain ⟨v, st₀, t, T', L, h0, X', hL, e1, e2, ⟨⟨r, h', hv, hq, hP'⟩, hz, hk⟩, stp⟩ := hr T hT X
  cases hv
  rw [h0] at hz hk
  have hAd : ∀ k, k < x_N → A (ad k) := fun k hkN => Wd.1.2 k _ (x_w_get hkN)
  have hsub : ∀ q, va_A (x_w dA ad h) H.size q → A q := by
    intro q hq
    rcases hq with ⟨k, e9, hq⟩ | hq
    · exact Wd.1.2 k _ hq
    · exact Wd.2.2.2 q (Nat.le_trans Wd.2.1.1 hq)
  have hP2 : va_P D vwCl (x_w dA ad h') T'.heap := by rw [e1]; exact hP'
  have hS2 : va_S A s.heap T'.heap (locs ++ L) := ⟨Nat.le_trans Wd.2.1.1 (by rw [e1]; exact hz), fun q h1 h2 => by rw [e1, hk q (Nat.lt_of_lt_of_le h1 Wd.2.1.1) (fun z => h2 (hsub q z))]; exact Wd.2.1.2.1 q h1 h2, fun q hq => by
      rcases List.mem_append.mp hq with h | h
      · exact Wd.2.1.2.2 q h
      · exact hsub _ (hL q h)⟩
  have K := kk r h' hq p l e s m args below meth c D dA ad A lsc T'.heap (locs ++ L) E ⟨x_w_D Wd.1 hAd, hS2, hP2, Wd.2.2.2⟩ Lc T' rfl X'
  obtain ⟨t2, a1, b1⟩ := K
  refine ⟨t2, stp t2 ?_, b1⟩
  have e9 : (r.map (x_t ad)).toList ++ st.map (x_t ad) = (r.toList ++ st).map (x_t ad) := by cases r <;> simp
  show Steps p.tables e below (T'.setTop (F0 m (pc + 3) lsc ((r.map (x_t ad)).toList ++ st.map (x_t ad)))) t2
  rw [e9]
  exact a1
theorem x_invV {d' idx ci n k : Nat} {M' : x_M} {as st0 : List Value} {fs : List Value} {Q' : Option Value → x_H → Prop} (hL : x_CV M.1.cls idx M' ci n) (hd : decode M.2.1 pc = .ok (.invokevirtual idx, 3)) (hC : x_Ct d' M' (.ref k :: as) h Q') (hdd : d' < d) (hs : st0 = as.reverse ++ .ref k :: st) (hk : k < x_N) (hc : h k = .inr (ci, fs)) (hn : as.length = n) (hw : (st.map fun v => v.category).sum ≤ 8) (kk : ∀ r h', Q' r h' → x_V d M (pc + 3) ls (r.toList ++ st) h' Q) : x_V d M pc ls st0 h Q := by
  subst hs
  intro p l e s m args below meth c D dA ad A lsc H locs E Wd Lc
  obtain ⟨⟨hcode, hini, hnm, hml⟩, hlk, hinst, hsel, q, hq1, hq2⟩ := hL
  have hts := E.2.2.2.2.2.1
  have g1 : GoodIn (x_ws M) (wsV M.1.cls idx M'.1.cls M'.1 (x_ws M')) := by
    intro w hw
    rcases List.mem_append.mp hw with hw | hw
    · have hb : w ∈ x_base := by
        simp only [List.mem_cons, List.not_mem_nil, or_false] at hw
        rcases hw with rfl | rfl | rfl | rfl <;> assumption
      exact ⟨List.mem_cons_of_mem _ hb, good_of_word (x_base_all _ hb)⟩
    · exact x_good hcode w hw
  have he : (x_w dA ad h)[k]? = some (ad k, .inr (ci, fs.map (x_t ad))) := by rw [x_w_get hk, hc]; rfl
  refine x_back E Wd Lc (a := (Value.ref (ad k) :: as.map (x_t ad)).toArray) (va_runV (As := as.map (x_t ad)) (rest := st.map (x_t ad)) ⟨E.1, E.2.1, E.2.2.2.1, E.2.2.2.2.1, hts⟩ (hC l D dA ad H.size) (cwV n hts g1 rfl rfl rfl ⟨rfl, hnm⟩ ⟨?_, ?_⟩) ⟨x_blind _ _ _ _ _ _, ?_, fun U hU hW => ⟨rfl, by rw [hU], by rw [hU]; exact Wd.2.2.1, x_K_warm hW E.2.2.2.2.2.2.2, Wd.1.weaken (fun _ _ _ _ => trivial)⟩⟩ rfl (by simpa using hn) Lc.1 (by simp [x_t]) (lv_room ?_) hd ⟨Nat.le_refl _, Nat.le_refl _⟩) kk
  · show d' + 1 ≤ d; omega
  · show 8 + (M'.2.2.1 + 11) + 40 * d' ≤ 40 * d; omega
  · rw [← hq2]; exact va_recv E.2.2.2.2.2.2.2.1 Wd.2.2.1 hq1 he
  · rw [List.map_map]; simpa [Function.comp_def, x_t_cat] using hw
theorem x_invS {d' idx n : Nat} {M' : x_M} {as st0 : List Value} {Q' : Option Value → x_H → Prop} (hL : x_CS M.1.cls idx M' n) (hd : decode M.2.1 pc = .ok (.invokestatic idx, 3)) (hC : x_Ct d' M' as h Q') (hdd : d' < d) (hs : st0 = as.reverse ++ st) (hn : as.length = n) (hw : (st.map fun v => v.category).sum ≤ 8) (kk : ∀ r h', Q' r h' → x_V d M (pc + 3) ls (r.toList ++ st) h' Q) : x_V d M pc ls st0 h Q := by
  subst hs
  intro p l e s m args below meth c D dA ad A lsc H locs E Wd Lc
  obtain ⟨⟨hcode, hini, hnm, hml⟩, hlk, hsta⟩ := hL
  have hts := E.2.2.2.2.2.1
  have hR : (x_rm d').frames + 1 ≤ (x_rm d).frames ∧ 8 + (M'.2.2.1 + 11) + (x_rm d').locals ≤ (x_rm d).locals := by
    refine ⟨?_, ?_⟩
    · show d' + 1 ≤ d; omega
    · show 8 + (M'.2.2.1 + 11) + 40 * d' ≤ 40 * d; omega
  have hpre : PreS s H (x_Pm D dA ad as h H.size) (as.map (x_t ad)) := ⟨x_blind _ _ _ _ _ _, fun U hU hW => ⟨rfl, by rw [hU], by rw [hU]; exact Wd.2.2.1, x_K_warm hW E.2.2.2.2.2.2.2, Wd.1.weaken (fun _ _ _ _ => trivial)⟩⟩
  have hsum : ((st.map (x_t ad)).map fun v => v.category).sum ≤ 8 := by rw [List.map_map]; simpa [Function.comp_def, x_t_cat] using hw
  rcases hlk with hlk | ⟨host, hlk⟩
  · have g1 : GoodIn (x_ws M) (va_wsS M.1.cls idx M'.1 (x_ws M')) := by
      intro w hw
      rcases List.mem_append.mp hw with hw | hw
      · have hb : w ∈ x_base := by
          simp only [List.mem_cons, List.not_mem_nil, or_false] at hw
          rcases hw with rfl | rfl | rfl <;> assumption
        exact ⟨List.mem_cons_of_mem _ hb, good_of_word (x_base_all _ hb)⟩
      · exact x_good hcode w hw
    exact x_back E Wd Lc (a := (as.map (x_t ad)).toArray) (va_runS (As := as.map (x_t ad)) (rest := st.map (x_t ad)) ⟨E.1, E.2.1, E.2.2.2.1, E.2.2.2.2.1, hts⟩ (hC l D dA ad H.size) (va_cwS n hts g1 rfl rfl rfl hnm hR) hpre rfl (by simpa using hn) Lc.1 (by simp) (lv_room hsum) hd ⟨Nat.le_refl _, Nat.le_refl _⟩) kk
  · exact x_back E Wd Lc (a := (as.map (x_t ad)).toArray) (va_runSN (As := as.map (x_t ad)) (rest := st.map (x_t ad)) (host := host) ⟨E.1, E.2.1, E.2.2.2.1, E.2.2.2.2.1, hts⟩ (hC l D dA ad H.size) ⟨va_cnB n hts (x_good hcode) rfl rfl rfl (E.2.2.2.2.2.2.2.2 _ hlk) (hts _ (List.mem_cons_of_mem _ hini)) hnm hR, hts _ (List.mem_cons_of_mem _ hsta), trivial⟩ hpre rfl (by simpa using hn) Lc.1 (by simp) (lv_room hsum) hd ⟨Nat.le_refl _, Nat.le_refl _⟩) kk
end XV2
