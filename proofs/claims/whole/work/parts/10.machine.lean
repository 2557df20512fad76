/-! the abstract machine: locals are a function, the heap is a function from places 0 to 42 to cells; references are places -/
abbrev x_M : Type := MethodName × ByteArray × Nat × Option FieldType
abbrev x_E : Type := (Nat × vp_A) ⊕ (Nat × List Value)
abbrev x_H : Type := Nat → x_E
abbrev x_L : Type := Nat → Option Value
def x_N : Nat := 43
def x_t (ad : Nat → Nat) : Value → Value
  | .ref k => .ref (ad k)
  | v => v
def x_a (ad : Nat → Nat) (a : vp_A) : vp_A := match a with
  | (n, .inr (.inr (.inr (.inr f)))) => (n, .inr (.inr (.inr (.inr (fun j => (f j).map ad)))))
  | (n, .inl f) => (n, .inl f)
  | (n, .inr (.inl f)) => (n, .inr (.inl f))
  | (n, .inr (.inr (.inl f))) => (n, .inr (.inr (.inl f)))
  | (n, .inr (.inr (.inr (.inl f)))) => (n, .inr (.inr (.inr (.inl f))))
def x_c (dA : Nat → ClassId) (ad : Nat → Nat) : x_E → va_E
  | .inl (t, a) => .inl (dA t, x_a ad a)
  | .inr (ci, fs) => .inr (ci, fs.map (x_t ad))
def x_w (dA : Nat → ClassId) (ad : Nat → Nat) (h : x_H) : va_W := (List.range x_N).map fun k => (ad k, x_c dA ad (h k))
def x_up (h : x_H) (k : Nat) (c : x_E) : x_H := fun j => if j = k then c else h j
theorem x_up_s {h : x_H} {k : Nat} {c : x_E} : x_up h k c k = c := by simp [x_up]
theorem x_up_n {h : x_H} {k j : Nat} {c : x_E} (hn : j ≠ k) : x_up h k c j = h j := by simp [x_up, hn]
theorem x_up_eta {h : x_H} {k : Nat} {c : x_E} (e : h k = c) : x_up h k c = h := by
  funext j
  by_cases hj : j = k
  · subst hj; rw [x_up_s, e]
  · rw [x_up_n hj]
theorem x_up_up {h : x_H} {k : Nat} {c c' : x_E} : x_up (x_up h k c) k c' = x_up h k c' := by
  funext j
  by_cases hj : j = k
  · subst hj; rw [x_up_s, x_up_s]
  · rw [x_up_n hj, x_up_n hj, x_up_n hj]
theorem x_up_cm {h : x_H} {k k' : Nat} {c c' : x_E} (hn : k ≠ k') : x_up (x_up h k c) k' c' = x_up (x_up h k' c') k c := by
  funext j
  by_cases hj : j = k
  · subst hj; rw [x_up_n hn, x_up_s, x_up_s]
  · by_cases hj' : j = k'
    · subst hj'; rw [x_up_s, x_up_n hj, x_up_s]
    · rw [x_up_n hj', x_up_n hj, x_up_n hj, x_up_n hj']
def x_tys (dA : Nat → ClassId) : List (ClassId × FieldType) := [(dA 0, .int), (dA 1, .boolean), (dA 2, .long), (dA 3, .object "NineNames$Setting")]
def x_isN : Cond → Bool
  | .fieldLinkNest .. => true
  | .methodLinkNest .. => true
  | _ => false
def x_nest : List Cond := tables_1.filter x_isN
def x_base : List Cond := lw_tbl.filter goodWord
def x_ws (M : x_M) : List Cond := .code M.1 M.2.1 M.2.2.1 M.2.2.2 :: x_base
def x_K (D : va_G) (dA : Nat → ClassId) (U : State) : Prop := va_K D vwCl (x_tys dA) U ∧ ∀ w ∈ x_nest, va_Nw w U
def x_rm (d : Nat) : Room := { frames := d, cells := 0, slots := 0, locals := 40 * d }
def x_Qm (D : va_G) (dA : Nat → ClassId) (ad : Nat → Nat) (A : Nat → Prop) (Q : Option Value → x_H → Prop) : Array Value → State → Outcome → State → Prop := fun _ st oc t => (∃ (r : Option Value) (h' : x_H), oc = .returned (r.map (x_t ad)) ∧ Q r h' ∧ va_P D vwCl (x_w dA ad h') t.heap) ∧ va_F A st t
def x_Pm (D : va_G) (dA : Nat → ClassId) (ad : Nat → Nat) (as : List Value) (h : x_H) (sz : Nat) : Array Value → State → Prop := va_Pc (as.map (x_t ad)) (fun U => U.heap.size = sz ∧ va_P D vwCl (x_w dA ad h) U.heap ∧ x_K D dA U ∧ va_D (fun _ => True) (x_w dA ad h))
/-- a method's contract over the abstract heap -/
def x_Ct (d : Nat) (M : x_M) (as : List Value) (h : x_H) (Q : Option Value → x_H → Prop) : Prop :=
  ∀ (l : Launch) (D : va_G) (dA : Nat → ClassId) (ad : Nat → Nat) (sz : Nat), Met l M.1 (x_ws M) (x_rm d) (x_Pm D dA ad as h sz) (x_Qm D dA ad (va_A (x_w dA ad h) sz) Q) 0 0 (va_A (x_w dA ad h) sz)
def x_Ev (M : x_M) (p : Program) (s : State) (m : MethodId) (args : Array Value) (meth : Method) (c : Code) (D : va_G) (dA : Nat → ClassId) : Prop :=
  p.tables.exec = Jvm.exec ∧ c.code = M.2.1 ∧ meth.sig.returnType = M.2.2.2 ∧ c.maxLocals = M.2.2.1 ∧ s.vm.findClass M.1.cls = some m.cls ∧ (∀ w ∈ x_ws M, w.before args s = true) ∧ meth.locks = false ∧ x_K D dA s
def x_Wd (D : va_G) (dA : Nat → ClassId) (ad : Nat → Nat) (A : Nat → Prop) (h : x_H) (s : State) (H : Heap) (locs : List Loc) : Prop :=
  va_D A (x_w dA ad h) ∧ va_S A s.heap H locs ∧ va_P D vwCl (x_w dA ad h) H ∧ ∀ q, s.heap.size ≤ q → A q
def x_Lc (ad : Nat → Nat) (ls : x_L) (n : Nat) (lsc : Array Slot) : Prop := lsc.size = n ∧ lv_wf lsc ∧ ∀ (i : Nat) (v : Value), ls i = some v → lsc[i]? = some (.val (x_t ad v))
/-- the abstract machine at pc, with locals ls, stack st, heap h: it comes to the method's end with Q -/
def x_V (d : Nat) (M : x_M) (pc : Nat) (ls : x_L) (st : List Value) (h : x_H) (Q : Option Value → x_H → Prop) : Prop :=
  ∀ (p : Program) (l : Launch) (e : Env) (s : State) (m : MethodId) (args : Array Value) (below : List Frame) (meth : Method) (c : Code) (D : va_G) (dA : Nat → ClassId) (ad : Nat → Nat) (A : Nat → Prop) (lsc : Array Slot) (H : Heap) (locs : List Loc),
    x_Ev M p s m args meth c D dA → x_Wd D dA ad A h s H locs → x_Lc ad ls M.2.2.1 lsc → W p l e (x_rm d) s m args below meth c H locs 0 0 (MQ below (x_Qm D dA ad A Q) args s 0 0 A) (F0 m pc lsc (st.map (x_t ad)))
theorem x_w_get {dA : Nat → ClassId} {ad : Nat → Nat} {h : x_H} {k : Nat} (hk : k < x_N) : (x_w dA ad h)[k]? = some (ad k, x_c dA ad (h k)) := by
  simp [x_w, hk]
theorem x_w_get_inv {dA : Nat → ClassId} {ad : Nat → Nat} {h : x_H} {k : Nat} {q : Nat × va_E} (hq : (x_w dA ad h)[k]? = some q) : k < x_N ∧ q = (ad k, x_c dA ad (h k)) := by
  have hk : k < x_N := by
    have := (List.getElem?_eq_some_iff.mp hq).1
    simpa [x_w] using this
  rw [x_w_get hk] at hq
  exact ⟨hk, (Option.some.inj hq).symm⟩
theorem x_w_set {dA : Nat → ClassId} {ad : Nat → Nat} {h : x_H} {k : Nat} {c : x_E} (hk : k < x_N) : (x_w dA ad h).set k (ad k, x_c dA ad c) = x_w dA ad (x_up h k c) := by
  apply List.ext_getElem?
  intro j
  by_cases hj : j = k
  · subst hj
    rw [List.getElem?_set_self (by simpa [x_w] using hk), x_w_get hk, x_up_s]
  · rw [List.getElem?_set_ne (fun q => hj q.symm)]
    by_cases hjn : j < x_N
    · rw [x_w_get hjn, x_w_get hjn, x_up_n hj]
    · have l1 : (x_w dA ad h).length = x_N := by simp [x_w]
      have l2 : (x_w dA ad (x_up h k c)).length = x_N := by simp [x_w]
      rw [List.getElem?_eq_none (by omega), List.getElem?_eq_none (by omega)]
theorem x_w_D {dA : Nat → ClassId} {ad : Nat → Nat} {h h' : x_H} {A A' : Nat → Prop} (hD : va_D A (x_w dA ad h)) (hA : ∀ k, k < x_N → A' (ad k)) : va_D A' (x_w dA ad h') := by
  refine ⟨fun i j p q hp hq e => ?_, fun k q hq => ?_⟩
  · obtain ⟨hi, rfl⟩ := x_w_get_inv hp
    obtain ⟨hj, rfl⟩ := x_w_get_inv hq
    exact hD.1 i j _ _ (x_w_get hi) (x_w_get hj) e
  · obtain ⟨hk, rfl⟩ := x_w_get_inv hq
    exact hA k hk
theorem x_t_cat (ad : Nat → Nat) (v : Value) : (x_t ad v).category = v.category := by cases v <;> rfl
theorem x_nest_warm {s U : State} (hW : s.WarmedH U.vm) (h : ∀ w ∈ x_nest, va_Nw w s) : ∀ w ∈ x_nest, va_Nw w U := by
  intro w hw
  have h1 := h w hw
  have h2 := (List.mem_filter.mp hw).2
  cases w <;> first | exact va_Nw.warmF hW h1 | exact va_Nw.warmM hW h1 | (simp [x_isN] at h2; done)
theorem x_nest_same {u U : State} (e : u.vm = U.vm) (h : ∀ w ∈ x_nest, va_Nw w u) : ∀ w ∈ x_nest, va_Nw w U := by
  intro w hw
  have h1 := h w hw
  have h2 := (List.mem_filter.mp hw).2
  cases w <;> first | exact va_Nw.same rfl e h1 | (simp [x_isN] at h2; done)
theorem x_K_warm {D : va_G} {dA : Nat → ClassId} {s U : State} (hW : s.WarmedH U.vm) (h : x_K D dA s) : x_K D dA U := ⟨va_K.moved hW.alike h.1, x_nest_warm hW h.2⟩
theorem x_base_all : ∀ w ∈ x_base, goodWord w = true := fun _ h => (List.mem_filter.mp h).2
theorem x_code_good (M : x_M) : goodWord (.code M.1 M.2.1 M.2.2.1 M.2.2.2) = true := rfl
theorem x_good {M M' : x_M} (h : Cond.code M'.1 M'.2.1 M'.2.2.1 M'.2.2.2 ∈ x_base) : GoodIn (x_ws M) (x_ws M') := by
  intro w hw
  rcases List.mem_cons.mp hw with rfl | hw
  · exact ⟨List.mem_cons_of_mem _ h, good_of_word (x_base_all _ h)⟩
  · exact ⟨List.mem_cons_of_mem _ hw, good_of_word (x_base_all _ hw)⟩
theorem x_in (i : Nat) {w : Cond} (h : lw_tbl[i]? = some w) (hg : goodWord w = true) : w ∈ x_base := List.mem_filter.mpr ⟨List.mem_of_getElem? h, hg⟩
theorem x_inN (i : Nat) {w : Cond} (h : tables_1[i]? = some w) (hg : x_isN w = true) : w ∈ x_nest := List.mem_filter.mpr ⟨List.mem_of_getElem? h, hg⟩
/-- the locals at a method's entry -/
def x_ent : Nat → List Value → x_L
  | _, [] => fun _ => none
  | i, v :: vs => fun j => if j = i then some v else x_ent (if v.category = 2 then i + 2 else i + 1) vs j
theorem x_ent_in (ad : Nat → Nat) : ∀ (vs : List Value) (i j : Nat) (v : Value), x_ent i vs j = some v → (j, x_t ad v) ∈ lv_args i (vs.map (x_t ad)) := by
  intro vs
  induction vs with
  | nil => intro i j v h; simp [x_ent] at h
  | cons w vs ih =>
    intro i j v h
    simp only [x_ent] at h
    simp only [List.map_cons, lv_args, List.mem_cons]
    by_cases hj : j = i
    · rw [if_pos hj] at h
      cases h
      exact Or.inl (by rw [hj])
    · rw [if_neg hj] at h
      rw [x_t_cat]
      exact Or.inr (ih _ _ _ h)
def x_sz (as : List Value) : Nat := (as.map fun v => v.category).sum
theorem x_lg_len (ad : Nat → Nat) : ∀ as : List Value, (lg_sl (as.map (x_t ad))).length = x_sz as := by
  intro as
  induction as with
  | nil => rfl
  | cons v as ih =>
    have e : lg_sl ((v :: as).map (x_t ad)) = (if v.category = 2 then [Slot.val (x_t ad v), .second] else [.val (x_t ad v)]) ++ lg_sl (as.map (x_t ad)) := by
      simp [lg_sl, x_t_cat]
    rw [e, List.length_append, ih]
    rcases lv_cat v with h | h
    · simp [x_sz, h]
    · simp [x_sz, h]
set_option maxHeartbeats 1000000 in
/-- a contract out of a walk -/
theorem x_enter {d : Nat} {M : x_M} {as : List Value} {h : x_H} {Q : Option Value → x_H → Prop} (hp : plainName M.1.cls = true) (hs : x_sz as ≤ M.2.2.1) (k : x_V d M 0 (x_ent 0 as) [] h Q) : x_Ct d M as h Q := by
  intro l D dA ad sz
  refine Met.ofW (cc := M.2.1) (maxL := M.2.2.1) (ret := M.2.2.2) hp rfl ?_
  intro p e s m args below meth c s₁ B hml hv
  obtain ⟨rfl, hsz, hP, hK, hD0⟩ := hv
  subst hsz
  have hl := lv_entry (as.map (x_t ad)) (n := M.2.2.1) (by rw [x_lg_len]; exact hs)
  rw [lg_entry_eq]
  generalize (lg_sl (as.map (x_t ad)) ++ List.replicate (M.2.2.1 - (lg_sl (as.map (x_t ad))).length) Slot.unset).toArray = lsc at hl ⊢
  exact k p l e s m _ below meth c D dA ad _ lsc s.heap [] ⟨B.exec, B.bytes, B.returns, hml, findClass_of_methodNamed B.named, atoms_spec (ws := x_ws M) B.pre, B.notSynchronized, hK⟩
    ⟨hD0.self, va_S.rf, hP, fun q hq => Or.inr hq⟩ ⟨hl.1, hl.2.1, fun i v hv => hl.2.2 _ (x_ent_in ad as 0 i v hv)⟩
section XV
variable {d : Nat} {M : x_M} {pc : Nat} {ls : x_L} {st : List Value} {h : x_H} {Q : Option Value → x_H → Prop}
theorem x_mono {Q' : Option Value → x_H → Prop} (hq : ∀ r h, Q r h → Q' r h) (k : x_V d M pc ls st h Q) : x_V d M pc ls st h Q' := by
  intro p l e s m args below meth c D dA ad A lsc H locs E Wd Lc T hT X
  obtain ⟨t, a, o, b1, b2, ⟨⟨r, h', b3, b4, b5⟩, b6⟩, b7⟩ := k p l e s m args below meth c D dA ad A lsc H locs E Wd Lc T hT X
  exact ⟨t, a, o, b1, b2, ⟨⟨r, h', b3, hq _ _ b4, b5⟩, b6⟩, b7⟩

theorem x_iconst {n : Int} {v : Int32} (hd : decode M.2.1 pc = .ok (.iconst n, 1)) (hv : Int32.ofInt n = v) (k : x_V d M (pc + 1) ls (.int v :: st) h Q) : x_V d M pc ls (st) h Q := by
  intro p l e s m args below meth c D dA ad A lsc H locs E Wd Lc
  exact lv_iconst E.1 E.2.1 hd hv (k p l e s m args below meth c D dA ad A lsc H locs E Wd Lc)
theorem x_bipush {n : Int} {v : Int32} (hd : decode M.2.1 pc = .ok (.bipush n, 2)) (hv : (Int8.ofInt n).toInt32 = v) (k : x_V d M (pc + 2) ls (.int v :: st) h Q) : x_V d M pc ls (st) h Q := by
  intro p l e s m args below meth c D dA ad A lsc H locs E Wd Lc
  exact lv_bipush E.1 E.2.1 hd hv (k p l e s m args below meth c D dA ad A lsc H locs E Wd Lc)
theorem x_sipush {n : Int} {v : Int32} (hd : decode M.2.1 pc = .ok (.sipush n, 3)) (hv : (Int16.ofInt n).toInt32 = v) (k : x_V d M (pc + 3) ls (.int v :: st) h Q) : x_V d M pc ls (st) h Q := by
  intro p l e s m args below meth c D dA ad A lsc H locs E Wd Lc
  exact lv_sipush E.1 E.2.1 hd hv (k p l e s m args below meth c D dA ad A lsc H locs E Wd Lc)
theorem x_lconst {n : Fin 2} {v : Int64} (hd : decode M.2.1 pc = .ok (.lconst n, 1)) (hv : Int64.ofNat (n : Nat) = v) (k : x_V d M (pc + 1) ls (.long v :: st) h Q) : x_V d M pc ls (st) h Q := by
  intro p l e s m args below meth c D dA ad A lsc H locs E Wd Lc
  exact lv_lconst E.1 E.2.1 hd hv (k p l e s m args below meth c D dA ad A lsc H locs E Wd Lc)
theorem x_iadd {x y : Int32} (hd : decode M.2.1 pc = .ok (.iadd, 1)) (k : x_V d M (pc + 1) ls (.int (x + y) :: st) h Q) : x_V d M pc ls (.int y :: .int x :: st) h Q := by
  intro p l e s m args below meth c D dA ad A lsc H locs E Wd Lc
  exact lv_iadd E.1 E.2.1 hd (k p l e s m args below meth c D dA ad A lsc H locs E Wd Lc)
theorem x_isub {x y : Int32} (hd : decode M.2.1 pc = .ok (.isub, 1)) (k : x_V d M (pc + 1) ls (.int (x - y) :: st) h Q) : x_V d M pc ls (.int y :: .int x :: st) h Q := by
  intro p l e s m args below meth c D dA ad A lsc H locs E Wd Lc
  exact lv_isub E.1 E.2.1 hd (k p l e s m args below meth c D dA ad A lsc H locs E Wd Lc)
theorem x_imul {x y : Int32} (hd : decode M.2.1 pc = .ok (.imul, 1)) (k : x_V d M (pc + 1) ls (.int (x * y) :: st) h Q) : x_V d M pc ls (.int y :: .int x :: st) h Q := by
  intro p l e s m args below meth c D dA ad A lsc H locs E Wd Lc
  exact lv_imul E.1 E.2.1 hd (k p l e s m args below meth c D dA ad A lsc H locs E Wd Lc)
theorem x_iand {x y : Int32} (hd : decode M.2.1 pc = .ok (.iand, 1)) (k : x_V d M (pc + 1) ls (.int (x &&& y) :: st) h Q) : x_V d M pc ls (.int y :: .int x :: st) h Q := by
  intro p l e s m args below meth c D dA ad A lsc H locs E Wd Lc
  exact lv_iand E.1 E.2.1 hd (k p l e s m args below meth c D dA ad A lsc H locs E Wd Lc)
theorem x_ior {x y : Int32} (hd : decode M.2.1 pc = .ok (.ior, 1)) (k : x_V d M (pc + 1) ls (.int (x ||| y) :: st) h Q) : x_V d M pc ls (.int y :: .int x :: st) h Q := by
  intro p l e s m args below meth c D dA ad A lsc H locs E Wd Lc
  exact lv_ior E.1 E.2.1 hd (k p l e s m args below meth c D dA ad A lsc H locs E Wd Lc)
theorem x_ixor {x y : Int32} (hd : decode M.2.1 pc = .ok (.ixor, 1)) (k : x_V d M (pc + 1) ls (.int (x ^^^ y) :: st) h Q) : x_V d M pc ls (.int y :: .int x :: st) h Q := by
  intro p l e s m args below meth c D dA ad A lsc H locs E Wd Lc
  exact lv_ixor E.1 E.2.1 hd (k p l e s m args below meth c D dA ad A lsc H locs E Wd Lc)
theorem x_ishl {x y : Int32} (hd : decode M.2.1 pc = .ok (.ishl, 1)) (k : x_V d M (pc + 1) ls (.int (x <<< (y &&& 31)) :: st) h Q) : x_V d M pc ls (.int y :: .int x :: st) h Q := by
  intro p l e s m args below meth c D dA ad A lsc H locs E Wd Lc
  exact lv_ishl E.1 E.2.1 hd (k p l e s m args below meth c D dA ad A lsc H locs E Wd Lc)
theorem x_ishr {x y : Int32} (hd : decode M.2.1 pc = .ok (.ishr, 1)) (k : x_V d M (pc + 1) ls (.int (x >>> (y &&& 31)) :: st) h Q) : x_V d M pc ls (.int y :: .int x :: st) h Q := by
  intro p l e s m args below meth c D dA ad A lsc H locs E Wd Lc
  exact lv_ishr E.1 E.2.1 hd (k p l e s m args below meth c D dA ad A lsc H locs E Wd Lc)
theorem x_idiv {x y : Int32} (hd : decode M.2.1 pc = .ok (.idiv, 1)) (hne : ¬ y = 0) (k : x_V d M (pc + 1) ls (.int (x / y) :: st) h Q) : x_V d M pc ls (.int y :: .int x :: st) h Q := by
  intro p l e s m args below meth c D dA ad A lsc H locs E Wd Lc
  exact lv_idiv E.1 E.2.1 hd hne (k p l e s m args below meth c D dA ad A lsc H locs E Wd Lc)
theorem x_irem {x y : Int32} (hd : decode M.2.1 pc = .ok (.irem, 1)) (hne : ¬ y = 0) (k : x_V d M (pc + 1) ls (.int (x - x / y * y) :: st) h Q) : x_V d M pc ls (.int y :: .int x :: st) h Q := by
  intro p l e s m args below meth c D dA ad A lsc H locs E Wd Lc
  exact lv_irem E.1 E.2.1 hd hne (k p l e s m args below meth c D dA ad A lsc H locs E Wd Lc)
theorem x_ladd {x y : Int64} (hd : decode M.2.1 pc = .ok (.ladd, 1)) (k : x_V d M (pc + 1) ls (.long (x + y) :: st) h Q) : x_V d M pc ls (.long y :: .long x :: st) h Q := by
  intro p l e s m args below meth c D dA ad A lsc H locs E Wd Lc
  exact lv_ladd E.1 E.2.1 hd (k p l e s m args below meth c D dA ad A lsc H locs E Wd Lc)
theorem x_lsub {x y : Int64} (hd : decode M.2.1 pc = .ok (.lsub, 1)) (k : x_V d M (pc + 1) ls (.long (x - y) :: st) h Q) : x_V d M pc ls (.long y :: .long x :: st) h Q := by
  intro p l e s m args below meth c D dA ad A lsc H locs E Wd Lc
  exact lv_lsub E.1 E.2.1 hd (k p l e s m args below meth c D dA ad A lsc H locs E Wd Lc)
theorem x_lmul {x y : Int64} (hd : decode M.2.1 pc = .ok (.lmul, 1)) (k : x_V d M (pc + 1) ls (.long (x * y) :: st) h Q) : x_V d M pc ls (.long y :: .long x :: st) h Q := by
  intro p l e s m args below meth c D dA ad A lsc H locs E Wd Lc
  exact lv_lmul E.1 E.2.1 hd (k p l e s m args below meth c D dA ad A lsc H locs E Wd Lc)
theorem x_land {x y : Int64} (hd : decode M.2.1 pc = .ok (.land, 1)) (k : x_V d M (pc + 1) ls (.long (x &&& y) :: st) h Q) : x_V d M pc ls (.long y :: .long x :: st) h Q := by
  intro p l e s m args below meth c D dA ad A lsc H locs E Wd Lc
  exact lv_land E.1 E.2.1 hd (k p l e s m args below meth c D dA ad A lsc H locs E Wd Lc)
theorem x_lor {x y : Int64} (hd : decode M.2.1 pc = .ok (.lor, 1)) (k : x_V d M (pc + 1) ls (.long (x ||| y) :: st) h Q) : x_V d M pc ls (.long y :: .long x :: st) h Q := by
  intro p l e s m args below meth c D dA ad A lsc H locs E Wd Lc
  exact lv_lor E.1 E.2.1 hd (k p l e s m args below meth c D dA ad A lsc H locs E Wd Lc)
theorem x_lxor {x y : Int64} (hd : decode M.2.1 pc = .ok (.lxor, 1)) (k : x_V d M (pc + 1) ls (.long (x ^^^ y) :: st) h Q) : x_V d M pc ls (.long y :: .long x :: st) h Q := by
  intro p l e s m args below meth c D dA ad A lsc H locs E Wd Lc
  exact lv_lxor E.1 E.2.1 hd (k p l e s m args below meth c D dA ad A lsc H locs E Wd Lc)
theorem x_lrem {x y : Int64} (hd : decode M.2.1 pc = .ok (.lrem, 1)) (hne : ¬ y = 0) (k : x_V d M (pc + 1) ls (.long (x - x / y * y) :: st) h Q) : x_V d M pc ls (.long y :: .long x :: st) h Q := by
  intro p l e s m args below meth c D dA ad A lsc H locs E Wd Lc
  exact lv_lrem E.1 E.2.1 hd hne (k p l e s m args below meth c D dA ad A lsc H locs E Wd Lc)
theorem x_iushr {x y : Int32} (hd : decode M.2.1 pc = .ok (.iushr, 1)) (k : x_V d M (pc + 1) ls (.int ((x.toUInt32 >>> (y.toUInt32 &&& Int32.toUInt32 31)).toInt32) :: st) h Q) : x_V d M pc ls (.int y :: .int x :: st) h Q := by
  intro p l e s m args below meth c D dA ad A lsc H locs E Wd Lc
  exact lv_iushr E.1 E.2.1 hd rfl (k p l e s m args below meth c D dA ad A lsc H locs E Wd Lc)
theorem x_lushr {x : Int64} {y : Int32} (hd : decode M.2.1 pc = .ok (.lushr, 1)) (k : x_V d M (pc + 1) ls (.long ((x.toUInt64 >>> (y.toInt64.toUInt64 &&& Int64.toUInt64 63)).toInt64) :: st) h Q) : x_V d M pc ls (.int y :: .long x :: st) h Q := by
  intro p l e s m args below meth c D dA ad A lsc H locs E Wd Lc
  exact lv_lushr E.1 E.2.1 hd rfl (k p l e s m args below meth c D dA ad A lsc H locs E Wd Lc)
theorem x_lshl {x : Int64} {y : Int32} (hd : decode M.2.1 pc = .ok (.lshl, 1)) (k : x_V d M (pc + 1) ls (.long (x <<< (y.toInt64 &&& 63)) :: st) h Q) : x_V d M pc ls (.int y :: .long x :: st) h Q := by
  intro p l e s m args below meth c D dA ad A lsc H locs E Wd Lc
  exact lv_lshl E.1 E.2.1 hd rfl (k p l e s m args below meth c D dA ad A lsc H locs E Wd Lc)
theorem x_i2l {x : Int32} (hd : decode M.2.1 pc = .ok (.i2l, 1)) (k : x_V d M (pc + 1) ls (.long x.toInt64 :: st) h Q) : x_V d M pc ls (.int x :: st) h Q := by
  intro p l e s m args below meth c D dA ad A lsc H locs E Wd Lc
  exact lv_i2l E.1 E.2.1 hd rfl (k p l e s m args below meth c D dA ad A lsc H locs E Wd Lc)
theorem x_l2i {x : Int64} (hd : decode M.2.1 pc = .ok (.l2i, 1)) (k : x_V d M (pc + 1) ls (.int x.toInt32 :: st) h Q) : x_V d M pc ls (.long x :: st) h Q := by
  intro p l e s m args below meth c D dA ad A lsc H locs E Wd Lc
  exact lv_l2i E.1 E.2.1 hd rfl (k p l e s m args below meth c D dA ad A lsc H locs E Wd Lc)
theorem x_lcmp {x y : Int64} (hd : decode M.2.1 pc = .ok (.lcmp, 1)) (k : x_V d M (pc + 1) ls (.int (lg_cmp x y) :: st) h Q) : x_V d M pc ls (.long y :: .long x :: st) h Q := by
  intro p l e s m args below meth c D dA ad A lsc H locs E Wd Lc
  exact W.lcmp E.1 E.2.1 hd (k p l e s m args below meth c D dA ad A lsc H locs E Wd Lc)
theorem x_dup {v : Value} (hd : decode M.2.1 pc = .ok (.dup, 1)) (hv : v.category = 1) (k : x_V d M (pc + 1) ls (v :: v :: st) h Q) : x_V d M pc ls (v :: st) h Q := by
  intro p l e s m args below meth c D dA ad A lsc H locs E Wd Lc
  exact lv_dup E.1 E.2.1 hd (by rw [x_t_cat]; exact hv) (k p l e s m args below meth c D dA ad A lsc H locs E Wd Lc)
theorem x_dup2 {v u : Value} (hd : decode M.2.1 pc = .ok (.dup2, 1)) (hv : v.category = 1) (hu : u.category = 1) (k : x_V d M (pc + 1) ls (v :: u :: v :: u :: st) h Q) : x_V d M pc ls (v :: u :: st) h Q := by
  intro p l e s m args below meth c D dA ad A lsc H locs E Wd Lc
  exact lv_dup2_11 E.1 E.2.1 hd (by rw [x_t_cat]; exact hv) (by rw [x_t_cat]; exact hu) (k p l e s m args below meth c D dA ad A lsc H locs E Wd Lc)
theorem x_iload_n {n : Fin 4} {i : Nat} {x : Int32} (hd : decode M.2.1 pc = .ok (.iload_n n, 1)) (hi : (n : Nat) = i) (hl : ls i = some (.int x)) (k : x_V d M (pc + 1) ls (.int x :: st) h Q) : x_V d M pc ls st h Q := by
  intro p l e s m args below meth c D dA ad A lsc H locs E Wd Lc
  exact lv_iload_n E.1 E.2.1 hd hi (Lc.2.2 _ _ hl) (k p l e s m args below meth c D dA ad A lsc H locs E Wd Lc)
theorem x_iload {i : Nat} {x : Int32} (hd : decode M.2.1 pc = .ok (.iload i, 2)) (hl : ls i = some (.int x)) (k : x_V d M (pc + 2) ls (.int x :: st) h Q) : x_V d M pc ls st h Q := by
  intro p l e s m args below meth c D dA ad A lsc H locs E Wd Lc
  exact lv_iload E.1 E.2.1 hd (Lc.2.2 _ _ hl) (k p l e s m args below meth c D dA ad A lsc H locs E Wd Lc)
theorem x_lload_n {n : Fin 4} {i : Nat} {x : Int64} (hd : decode M.2.1 pc = .ok (.lload_n n, 1)) (hi : (n : Nat) = i) (hl : ls i = some (.long x)) (k : x_V d M (pc + 1) ls (.long x :: st) h Q) : x_V d M pc ls st h Q := by
  intro p l e s m args below meth c D dA ad A lsc H locs E Wd Lc
  exact lv_lload_n E.1 E.2.1 hd hi (Lc.2.2 _ _ hl) (k p l e s m args below meth c D dA ad A lsc H locs E Wd Lc)
theorem x_lload {i : Nat} {x : Int64} (hd : decode M.2.1 pc = .ok (.lload i, 2)) (hl : ls i = some (.long x)) (k : x_V d M (pc + 2) ls (.long x :: st) h Q) : x_V d M pc ls st h Q := by
  intro p l e s m args below meth c D dA ad A lsc H locs E Wd Lc
  exact lv_lload E.1 E.2.1 hd (Lc.2.2 _ _ hl) (k p l e s m args below meth c D dA ad A lsc H locs E Wd Lc)
theorem x_aload_n {n : Fin 4} {i : Nat} {x : Nat} (hd : decode M.2.1 pc = .ok (.aload_n n, 1)) (hi : (n : Nat) = i) (hl : ls i = some (.ref x)) (k : x_V d M (pc + 1) ls (.ref x :: st) h Q) : x_V d M pc ls st h Q := by
  intro p l e s m args below meth c D dA ad A lsc H locs E Wd Lc
  exact lv_aload_n E.1 E.2.1 hd hi (Lc.2.2 _ _ hl) (k p l e s m args below meth c D dA ad A lsc H locs E Wd Lc)
theorem x_aload {i : Nat} {x : Nat} (hd : decode M.2.1 pc = .ok (.aload i, 2)) (hl : ls i = some (.ref x)) (k : x_V d M (pc + 2) ls (.ref x :: st) h Q) : x_V d M pc ls st h Q := by
  intro p l e s m args below meth c D dA ad A lsc H locs E Wd Lc
  exact lv_aload E.1 E.2.1 hd (Lc.2.2 _ _ hl) (k p l e s m args below meth c D dA ad A lsc H locs E Wd Lc)
def x_is2 : Option Value → Bool
  | some v => v.category == 2
  | none => false
/-- a store of one place, of two -/
def x_s1 (ls : x_L) (i : Nat) (v : Value) : x_L := fun j => if j = i then some v else if (j + 1 == i && x_is2 (ls j)) = true then none else ls j
def x_s2 (ls : x_L) (i : Nat) (v : Value) : x_L := fun j => if j = i then some v else if (j == i + 1 || (j + 1 == i && x_is2 (ls j))) = true then none else ls j
theorem x_sto1 {ad : Nat → Nat} {n i : Nat} {lsc : Array Slot} {v : Value} (Lc : x_Lc ad ls n lsc) (hi : i < n) (hc : v.category = 1) : ∃ lsc', storeLocals lsc i (x_t ad v) = some lsc' ∧ x_Lc ad (x_s1 ls i v) n lsc' := by
  obtain ⟨h1, h2, h3⟩ := Lc
  obtain ⟨l', e', b1, b2, b3⟩ := lv_store1 (l := []) (v := x_t ad v) ⟨h1, h2, fun q hq => by cases hq⟩ hi (by rw [x_t_cat]; exact hc)
  refine ⟨l', e', b1, b2, fun j u hu => ?_⟩
  unfold x_s1 at hu
  by_cases hj : j = i
  · rw [if_pos hj] at hu
    cases hu
    exact b3 (j, x_t ad v) (by rw [hj]; exact List.mem_cons_self)
  · rw [if_neg hj] at hu
    by_cases hb : (j + 1 == i && x_is2 (ls j)) = true
    · rw [if_pos hb] at hu
      cases hu
    · rw [if_neg hb] at hu
      obtain ⟨l2, e2, -, -, c3⟩ := lv_store1 (l := [(j, x_t ad u)]) (v := x_t ad v) ⟨h1, h2, fun q hq => by rw [List.mem_singleton.mp hq]; exact h3 j u hu⟩ hi (by rw [x_t_cat]; exact hc)
      cases e'.symm.trans e2
      refine c3 (j, x_t ad u) (List.mem_cons_of_mem _ (List.mem_filter.mpr ⟨List.mem_singleton.mpr rfl, ?_⟩))
      rw [hu] at hb
      simp only [x_is2, Bool.and_eq_true, beq_iff_eq, not_and] at hb
      simp only [Bool.and_eq_true, Bool.not_eq_true', beq_eq_false_iff_ne, ne_eq, Bool.and_eq_false_iff, x_t_cat]
      refine ⟨hj, ?_⟩
      by_cases hz : j + 1 = i
      · exact Or.inr (hb hz)
      · exact Or.inl hz
theorem x_sto2 {ad : Nat → Nat} {n i : Nat} {lsc : Array Slot} {v : Value} (Lc : x_Lc ad ls n lsc) (hi : i + 1 < n) (hc : v.category = 2) : ∃ lsc', storeLocals lsc i (x_t ad v) = some lsc' ∧ x_Lc ad (x_s2 ls i v) n lsc' := by
  obtain ⟨h1, h2, h3⟩ := Lc
  obtain ⟨l', e', b1, b2, b3⟩ := lv_store2 (l := []) (v := x_t ad v) ⟨h1, h2, fun q hq => by cases hq⟩ hi (by rw [x_t_cat]; exact hc)
  refine ⟨l', e', b1, b2, fun j u hu => ?_⟩
  unfold x_s2 at hu
  by_cases hj : j = i
  · rw [if_pos hj] at hu
    cases hu
    exact b3 (j, x_t ad v) (by rw [hj]; exact List.mem_cons_self)
  · rw [if_neg hj] at hu
    by_cases hb : (j == i + 1 || (j + 1 == i && x_is2 (ls j))) = true
    · rw [if_pos hb] at hu
      cases hu
    · rw [if_neg hb] at hu
      obtain ⟨l2, e2, -, -, c3⟩ := lv_store2 (l := [(j, x_t ad u)]) (v := x_t ad v) ⟨h1, h2, fun q hq => by rw [List.mem_singleton.mp hq]; exact h3 j u hu⟩ hi (by rw [x_t_cat]; exact hc)
      cases e'.symm.trans e2
      refine c3 (j, x_t ad u) (List.mem_cons_of_mem _ (List.mem_filter.mpr ⟨List.mem_singleton.mpr rfl, ?_⟩))
      rw [hu] at hb
      simp only [x_is2, Bool.or_eq_true, Bool.and_eq_true, beq_iff_eq, not_or, not_and] at hb
      simp only [Bool.and_eq_true, Bool.not_eq_true', beq_eq_false_iff_ne, ne_eq, Bool.and_eq_false_iff, x_t_cat]
      refine ⟨hj, hb.1, ?_⟩
      by_cases hz : j + 1 = i
      · exact Or.inr (hb.2 hz)
      · exact Or.inl hz

theorem x_istore_n {n : Fin 4} {i : Nat} {x : Int32} (hd : decode M.2.1 pc = .ok (.istore_n n, 1)) (hi : (n : Nat) = i) (hn : i < M.2.2.1) (k : x_V d M (pc + 1) (x_s1 ls i (.int x)) st h Q) : x_V d M pc ls (.int x :: st) h Q := by
  subst hi
  intro p l e s m args below meth c D dA ad A lsc H locs E Wd Lc
  obtain ⟨lsc', e', L'⟩ := x_sto1 (v := .int x) Lc hn rfl
  have e' : storeLocals lsc _ (.int x) = some lsc' := e'
  have k := k p l e s m args below meth c D dA ad A lsc' H locs E Wd L'
  show W p l e (x_rm d) s m args below meth c H locs 0 0 _ (F0 m pc lsc ((.int x) :: st.map (x_t ad)))
  intro T hT X
  obtain ⟨t, a, b⟩ := k T hT X
  refine ⟨t, ?_, b⟩
  obtain ⟨hx, hb, -⟩ := E
  jvm_step X.here [X.here.top, ↓top_set X.here.top, hx, hb, hd, e']
  exact a
theorem x_istore {i : Nat} {x : Int32} (hd : decode M.2.1 pc = .ok (.istore i, 2)) (hn : i < M.2.2.1) (k : x_V d M (pc + 2) (x_s1 ls i (.int x)) st h Q) : x_V d M pc ls (.int x :: st) h Q := by
  intro p l e s m args below meth c D dA ad A lsc H locs E Wd Lc
  obtain ⟨lsc', e', L'⟩ := x_sto1 (v := .int x) Lc hn rfl
  have e' : storeLocals lsc _ (.int x) = some lsc' := e'
  have k := k p l e s m args below meth c D dA ad A lsc' H locs E Wd L'
  show W p l e (x_rm d) s m args below meth c H locs 0 0 _ (F0 m pc lsc ((.int x) :: st.map (x_t ad)))
  intro T hT X
  obtain ⟨t, a, b⟩ := k T hT X
  refine ⟨t, ?_, b⟩
  obtain ⟨hx, hb, -⟩ := E
  jvm_step X.here [X.here.top, ↓top_set X.here.top, hx, hb, hd, e']
  exact a
theorem x_lstore_n {n : Fin 4} {i : Nat} {x : Int64} (hd : decode M.2.1 pc = .ok (.lstore_n n, 1)) (hi : (n : Nat) = i) (hn : i + 1 < M.2.2.1) (k : x_V d M (pc + 1) (x_s2 ls i (.long x)) st h Q) : x_V d M pc ls (.long x :: st) h Q := by
  subst hi
  intro p l e s m args below meth c D dA ad A lsc H locs E Wd Lc
  obtain ⟨lsc', e', L'⟩ := x_sto2 (v := .long x) Lc hn rfl
  have e' : storeLocals lsc _ (.long x) = some lsc' := e'
  have k := k p l e s m args below meth c D dA ad A lsc' H locs E Wd L'
  show W p l e (x_rm d) s m args below meth c H locs 0 0 _ (F0 m pc lsc ((.long x) :: st.map (x_t ad)))
  intro T hT X
  obtain ⟨t, a, b⟩ := k T hT X
  refine ⟨t, ?_, b⟩
  obtain ⟨hx, hb, -⟩ := E
  jvm_step X.here [X.here.top, ↓top_set X.here.top, hx, hb, hd, e']
  exact a
theorem x_lstore {i : Nat} {x : Int64} (hd : decode M.2.1 pc = .ok (.lstore i, 2)) (hn : i + 1 < M.2.2.1) (k : x_V d M (pc + 2) (x_s2 ls i (.long x)) st h Q) : x_V d M pc ls (.long x :: st) h Q := by
  intro p l e s m args below meth c D dA ad A lsc H locs E Wd Lc
  obtain ⟨lsc', e', L'⟩ := x_sto2 (v := .long x) Lc hn rfl
  have e' : storeLocals lsc _ (.long x) = some lsc' := e'
  have k := k p l e s m args below meth c D dA ad A lsc' H locs E Wd L'
  show W p l e (x_rm d) s m args below meth c H locs 0 0 _ (F0 m pc lsc ((.long x) :: st.map (x_t ad)))
  intro T hT X
  obtain ⟨t, a, b⟩ := k T hT X
  refine ⟨t, ?_, b⟩
  obtain ⟨hx, hb, -⟩ := E
  jvm_step X.here [X.here.top, ↓top_set X.here.top, hx, hb, hd, e']
  exact a
theorem x_astore_n {n : Fin 4} {i : Nat} {x : Nat} (hd : decode M.2.1 pc = .ok (.astore_n n, 1)) (hi : (n : Nat) = i) (hn : i < M.2.2.1) (k : x_V d M (pc + 1) (x_s1 ls i (.ref x)) st h Q) : x_V d M pc ls (.ref x :: st) h Q := by
  subst hi
  intro p l e s m args below meth c D dA ad A lsc H locs E Wd Lc
  obtain ⟨lsc', e', L'⟩ := x_sto1 (v := .ref x) Lc hn rfl
  have e' : storeLocals lsc _ (.ref (ad x)) = some lsc' := e'
  have k := k p l e s m args below meth c D dA ad A lsc' H locs E Wd L'
  show W p l e (x_rm d) s m args below meth c H locs 0 0 _ (F0 m pc lsc ((.ref (ad x)) :: st.map (x_t ad)))
  intro T hT X
  obtain ⟨t, a, b⟩ := k T hT X
  refine ⟨t, ?_, b⟩
  obtain ⟨hx, hb, -⟩ := E
  jvm_step X.here [X.here.top, ↓top_set X.here.top, hx, hb, hd, e', Value.isRef]
  exact a
theorem x_astore {i : Nat} {x : Nat} (hd : decode M.2.1 pc = .ok (.astore i, 2)) (hn : i < M.2.2.1) (k : x_V d M (pc + 2) (x_s1 ls i (.ref x)) st h Q) : x_V d M pc ls (.ref x :: st) h Q := by
  intro p l e s m args below meth c D dA ad A lsc H locs E Wd Lc
  obtain ⟨lsc', e', L'⟩ := x_sto1 (v := .ref x) Lc hn rfl
  have e' : storeLocals lsc _ (.ref (ad x)) = some lsc' := e'
  have k := k p l e s m args below meth c D dA ad A lsc' H locs E Wd L'
  show W p l e (x_rm d) s m args below meth c H locs 0 0 _ (F0 m pc lsc ((.ref (ad x)) :: st.map (x_t ad)))
  intro T hT X
  obtain ⟨t, a, b⟩ := k T hT X
  refine ⟨t, ?_, b⟩
  obtain ⟨hx, hb, -⟩ := E
  jvm_step X.here [X.here.top, ↓top_set X.here.top, hx, hb, hd, e', Value.isRef]
  exact a
theorem x_iinc {i : Nat} {n : Int} {x v : Int32} (hd : decode M.2.1 pc = .ok (.iinc i n, 3)) (hl : ls i = some (.int x)) (hv : x + Int32.ofInt n = v) (hn : i < M.2.2.1) (k : x_V d M (pc + 3) (x_s1 ls i (.int v)) st h Q) : x_V d M pc ls st h Q := by
  subst hv
  intro p l e s m args below meth c D dA ad A lsc H locs E Wd Lc
  have hg : lsc[i]? = some (.val (.int x)) := Lc.2.2 _ _ hl
  obtain ⟨lsc', e', L'⟩ := x_sto1 (v := .int (x + Int32.ofInt n)) Lc hn rfl
  have e' : storeLocals lsc _ (.int (x + Int32.ofInt n)) = some lsc' := e'
  have k := k p l e s m args below meth c D dA ad A lsc' H locs E Wd L'
  intro T hT X
  obtain ⟨t, a, b⟩ := k T hT X
  refine ⟨t, ?_, b⟩
  obtain ⟨hx, hb, -⟩ := E
  jvm_step X.here [X.here.top, ↓top_set X.here.top, hx, hb, hd, hg, e']
  exact a
theorem x_icmp_eq {x y : Int32} {off : Int} (tgt : Nat) (hd : decode M.2.1 pc = .ok (.if_icmp .eq off, 3)) (ht : (pc : Int) + off = (tgt : Int)) (kt : x = y → x_V d M tgt ls st h Q) (kf : ¬ x = y → x_V d M (pc + 3) ls st h Q) : x_V d M pc ls (.int y :: .int x :: st) h Q := by
  intro p l e s m args below meth c D dA ad A lsc H locs E Wd Lc
  exact lv_icmp_eq E.1 E.2.1 hd ht (fun hc => kt hc p l e s m args below meth c D dA ad A lsc H locs E Wd Lc) (fun hc => kf hc p l e s m args below meth c D dA ad A lsc H locs E Wd Lc)
theorem x_if_eq {x : Int32} {off : Int} (tgt : Nat) (hd : decode M.2.1 pc = .ok (.ifCond .eq off, 3)) (ht : (pc : Int) + off = (tgt : Int)) (kt : x = 0 → x_V d M tgt ls st h Q) (kf : ¬ x = 0 → x_V d M (pc + 3) ls st h Q) : x_V d M pc ls (.int x :: st) h Q := by
  intro p l e s m args below meth c D dA ad A lsc H locs E Wd Lc
  exact lv_if_eq E.1 E.2.1 hd ht (fun hc => kt hc p l e s m args below meth c D dA ad A lsc H locs E Wd Lc) (fun hc => kf hc p l e s m args below meth c D dA ad A lsc H locs E Wd Lc)
theorem x_icmp_ne {x y : Int32} {off : Int} (tgt : Nat) (hd : decode M.2.1 pc = .ok (.if_icmp .ne off, 3)) (ht : (pc : Int) + off = (tgt : Int)) (kt : ¬ x = y → x_V d M tgt ls st h Q) (kf : x = y → x_V d M (pc + 3) ls st h Q) : x_V d M pc ls (.int y :: .int x :: st) h Q := by
  intro p l e s m args below meth c D dA ad A lsc H locs E Wd Lc
  exact lv_icmp_ne E.1 E.2.1 hd ht (fun hc => kt hc p l e s m args below meth c D dA ad A lsc H locs E Wd Lc) (fun hc => kf hc p l e s m args below meth c D dA ad A lsc H locs E Wd Lc)
theorem x_if_ne {x : Int32} {off : Int} (tgt : Nat) (hd : decode M.2.1 pc = .ok (.ifCond .ne off, 3)) (ht : (pc : Int) + off = (tgt : Int)) (kt : ¬ x = 0 → x_V d M tgt ls st h Q) (kf : x = 0 → x_V d M (pc + 3) ls st h Q) : x_V d M pc ls (.int x :: st) h Q := by
  intro p l e s m args below meth c D dA ad A lsc H locs E Wd Lc
  exact lv_if_ne E.1 E.2.1 hd ht (fun hc => kt hc p l e s m args below meth c D dA ad A lsc H locs E Wd Lc) (fun hc => kf hc p l e s m args below meth c D dA ad A lsc H locs E Wd Lc)
theorem x_icmp_lt {x y : Int32} {off : Int} (tgt : Nat) (hd : decode M.2.1 pc = .ok (.if_icmp .lt off, 3)) (ht : (pc : Int) + off = (tgt : Int)) (kt : x < y → x_V d M tgt ls st h Q) (kf : ¬ x < y → x_V d M (pc + 3) ls st h Q) : x_V d M pc ls (.int y :: .int x :: st) h Q := by
  intro p l e s m args below meth c D dA ad A lsc H locs E Wd Lc
  exact lv_icmp_lt E.1 E.2.1 hd ht (fun hc => kt hc p l e s m args below meth c D dA ad A lsc H locs E Wd Lc) (fun hc => kf hc p l e s m args below meth c D dA ad A lsc H locs E Wd Lc)
theorem x_if_lt {x : Int32} {off : Int} (tgt : Nat) (hd : decode M.2.1 pc = .ok (.ifCond .lt off, 3)) (ht : (pc : Int) + off = (tgt : Int)) (kt : x < 0 → x_V d M tgt ls st h Q) (kf : ¬ x < 0 → x_V d M (pc + 3) ls st h Q) : x_V d M pc ls (.int x :: st) h Q := by
  intro p l e s m args below meth c D dA ad A lsc H locs E Wd Lc
  exact lv_if_lt E.1 E.2.1 hd ht (fun hc => kt hc p l e s m args below meth c D dA ad A lsc H locs E Wd Lc) (fun hc => kf hc p l e s m args below meth c D dA ad A lsc H locs E Wd Lc)
theorem x_icmp_ge {x y : Int32} {off : Int} (tgt : Nat) (hd : decode M.2.1 pc = .ok (.if_icmp .ge off, 3)) (ht : (pc : Int) + off = (tgt : Int)) (kt : y ≤ x → x_V d M tgt ls st h Q) (kf : ¬ y ≤ x → x_V d M (pc + 3) ls st h Q) : x_V d M pc ls (.int y :: .int x :: st) h Q := by
  intro p l e s m args below meth c D dA ad A lsc H locs E Wd Lc
  exact lv_icmp_ge E.1 E.2.1 hd ht (fun hc => kt hc p l e s m args below meth c D dA ad A lsc H locs E Wd Lc) (fun hc => kf hc p l e s m args below meth c D dA ad A lsc H locs E Wd Lc)
theorem x_if_ge {x : Int32} {off : Int} (tgt : Nat) (hd : decode M.2.1 pc = .ok (.ifCond .ge off, 3)) (ht : (pc : Int) + off = (tgt : Int)) (kt : 0 ≤ x → x_V d M tgt ls st h Q) (kf : ¬ 0 ≤ x → x_V d M (pc + 3) ls st h Q) : x_V d M pc ls (.int x :: st) h Q := by
  intro p l e s m args below meth c D dA ad A lsc H locs E Wd Lc
  exact lv_if_ge E.1 E.2.1 hd ht (fun hc => kt hc p l e s m args below meth c D dA ad A lsc H locs E Wd Lc) (fun hc => kf hc p l e s m args below meth c D dA ad A lsc H locs E Wd Lc)
theorem x_icmp_gt {x y : Int32} {off : Int} (tgt : Nat) (hd : decode M.2.1 pc = .ok (.if_icmp .gt off, 3)) (ht : (pc : Int) + off = (tgt : Int)) (kt : y < x → x_V d M tgt ls st h Q) (kf : ¬ y < x → x_V d M (pc + 3) ls st h Q) : x_V d M pc ls (.int y :: .int x :: st) h Q := by
  intro p l e s m args below meth c D dA ad A lsc H locs E Wd Lc
  exact lv_icmp_gt E.1 E.2.1 hd ht (fun hc => kt hc p l e s m args below meth c D dA ad A lsc H locs E Wd Lc) (fun hc => kf hc p l e s m args below meth c D dA ad A lsc H locs E Wd Lc)
theorem x_if_gt {x : Int32} {off : Int} (tgt : Nat) (hd : decode M.2.1 pc = .ok (.ifCond .gt off, 3)) (ht : (pc : Int) + off = (tgt : Int)) (kt : 0 < x → x_V d M tgt ls st h Q) (kf : ¬ 0 < x → x_V d M (pc + 3) ls st h Q) : x_V d M pc ls (.int x :: st) h Q := by
  intro p l e s m args below meth c D dA ad A lsc H locs E Wd Lc
  exact lv_if_gt E.1 E.2.1 hd ht (fun hc => kt hc p l e s m args below meth c D dA ad A lsc H locs E Wd Lc) (fun hc => kf hc p l e s m args below meth c D dA ad A lsc H locs E Wd Lc)
theorem x_icmp_le {x y : Int32} {off : Int} (tgt : Nat) (hd : decode M.2.1 pc = .ok (.if_icmp .le off, 3)) (ht : (pc : Int) + off = (tgt : Int)) (kt : x ≤ y → x_V d M tgt ls st h Q) (kf : ¬ x ≤ y → x_V d M (pc + 3) ls st h Q) : x_V d M pc ls (.int y :: .int x :: st) h Q := by
  intro p l e s m args below meth c D dA ad A lsc H locs E Wd Lc
  exact lv_icmp_le E.1 E.2.1 hd ht (fun hc => kt hc p l e s m args below meth c D dA ad A lsc H locs E Wd Lc) (fun hc => kf hc p l e s m args below meth c D dA ad A lsc H locs E Wd Lc)
theorem x_if_le {x : Int32} {off : Int} (tgt : Nat) (hd : decode M.2.1 pc = .ok (.ifCond .le off, 3)) (ht : (pc : Int) + off = (tgt : Int)) (kt : x ≤ 0 → x_V d M tgt ls st h Q) (kf : ¬ x ≤ 0 → x_V d M (pc + 3) ls st h Q) : x_V d M pc ls (.int x :: st) h Q := by
  intro p l e s m args below meth c D dA ad A lsc H locs E Wd Lc
  exact lv_if_le E.1 E.2.1 hd ht (fun hc => kt hc p l e s m args below meth c D dA ad A lsc H locs E Wd Lc) (fun hc => kf hc p l e s m args below meth c D dA ad A lsc H locs E Wd Lc)
theorem x_goto {off : Int} (tgt : Nat) (hd : decode M.2.1 pc = .ok (.goto off, 3)) (ht : (pc : Int) + off = (tgt : Int)) (k : x_V d M tgt ls st h Q) : x_V d M pc ls st h Q := by
  intro p l e s m args below meth c D dA ad A lsc H locs E Wd Lc
  exact lv_goto E.1 E.2.1 hd ht (k p l e s m args below meth c D dA ad A lsc H locs E Wd Lc)
theorem x_ldc {idx : Nat} {v : Int32} (hw : Cond.constant M.1.cls idx v ∈ x_base) (hd : decode M.2.1 pc = .ok (.ldc idx, 2)) (k : x_V d M (pc + 2) ls (.int v :: st) h Q) : x_V d M pc ls st h Q := by
  intro p l e s m args below meth c D dA ad A lsc H locs E Wd Lc
  exact lv_ldc E.1 E.2.1 E.2.2.2.2.1 (E.2.2.2.2.2.1 _ (List.mem_cons_of_mem _ hw)) hd (k p l e s m args below meth c D dA ad A lsc H locs E Wd Lc)
theorem x_ldcw {idx : Nat} {v : Int32} (hw : Cond.constant M.1.cls idx v ∈ x_base) (hd : decode M.2.1 pc = .ok (.ldc_w idx, 3)) (k : x_V d M (pc + 3) ls (.int v :: st) h Q) : x_V d M pc ls st h Q := by
  intro p l e s m args below meth c D dA ad A lsc H locs E Wd Lc
  exact lv_ldcw E.1 E.2.1 E.2.2.2.2.1 (E.2.2.2.2.2.1 _ (List.mem_cons_of_mem _ hw)) hd (k p l e s m args below meth c D dA ad A lsc H locs E Wd Lc)
theorem x_ldc2 {idx : Nat} {v : Int64} (hw : Cond.constantLong M.1.cls idx v ∈ x_base) (hd : decode M.2.1 pc = .ok (.ldc2_w idx, 3)) (k : x_V d M (pc + 3) ls (.long v :: st) h Q) : x_V d M pc ls st h Q := by
  intro p l e s m args below meth c D dA ad A lsc H locs E Wd Lc
  exact lv_ldc2 E.1 E.2.1 E.2.2.2.2.1 (E.2.2.2.2.2.1 _ (List.mem_cons_of_mem _ hw)) hd (k p l e s m args below meth c D dA ad A lsc H locs E Wd Lc)
/-- a field by its link: own class, pool index, class number, slot -/
def x_FL (own : String) (idx ci j : Nat) : Prop := ∃ (C : String) (T : u_T) (N : Nat), vwCl[ci]? = some (C, T, N) ∧ j < N ∧ (∀ w ∈ u_ws C T N, w ∈ x_base) ∧ (Cond.fieldLink own idx (T j).1 (T j).2.1 (T j).2.2.1 ∈ x_base ∨ ∃ host, Cond.fieldLinkNest own idx (T j).1 (T j).2.1 (T j).2.2.1 host ∈ x_nest)
/-- and one that may be put: its type -/
def x_FP (own : String) (idx ci j : Nat) (ty : FieldType) : Prop := ∃ (C : String) (T : u_T) (N : Nat), vwCl[ci]? = some (C, T, N) ∧ j < N ∧ (∀ w ∈ u_ws C T N, w ∈ x_base) ∧ (Cond.fieldLink own idx (T j).1 (T j).2.1 (T j).2.2.1 ∈ x_base ∨ ∃ host, Cond.fieldLinkNest own idx (T j).1 (T j).2.1 (T j).2.2.1 host ∈ x_nest) ∧ (T j).2.2.2 = false ∧ parseFieldDescriptor (T j).2.2.1 = some ty ∧ (∃ ty0 : Nat → FieldType, ∀ k, k < N → parseFieldDescriptor (T k).2.2.1 = some (ty0 k)) ∧ (∀ a, a < N → ∀ b, b < N → a ≠ b → (T a).2.1 ≠ (T b).2.1)

theorem x_get {idx ci j k : Nat} {fs : List Value} {v : Value} (hL : x_FL M.1.cls idx ci j) (hd : decode M.2.1 pc = .ok (.getfield idx, 3)) (hk : k < x_N) (hc : h k = .inr (ci, fs)) (hv : fs[j]? = some v) (k0 : x_V d M (pc + 3) ls (v :: st) h Q) : x_V d M pc ls (.ref k :: st) h Q := by
  intro p l e s m args below meth c D dA ad A lsc H locs E Wd Lc
  have k1 := k0 p l e s m args below meth c D dA ad A lsc H locs E Wd Lc
  obtain ⟨C, T, N, hC, hj, hin, hlk⟩ := hL
  have he : (x_w dA ad h)[k]? = some (ad k, .inr (ci, fs.map (x_t ad))) := by rw [x_w_get hk, hc]; rfl
  have hv2 : (fs.map (x_t ad))[j]? = some (x_t ad v) := by rw [List.getElem?_map, hv]; rfl
  rcases hlk with hlk | ⟨host, hlk⟩
  · exact va_get E.1 E.2.1 E.2.2.2.2.2.1 (fun w hw => List.mem_cons_of_mem _ (hin w hw)) E.2.2.2.2.1 E.2.2.2.2.2.2.2.1 Wd.2.2.1 k he hC j hj (E.2.2.2.2.2.1 _ (List.mem_cons_of_mem _ hlk)) (fun _ h9 => h9) hv2 hd k1
  · exact va_getN E.1 E.2.1 E.2.2.2.2.2.1 (fun w hw => List.mem_cons_of_mem _ (hin w hw)) E.2.2.2.2.1 E.2.2.2.2.2.2.2.1 Wd.2.2.1 k he hC j hj (va_Nw.use rfl (E.2.2.2.2.2.2.2.2 _ hlk)) (fun _ h9 => h9) hv2 hd k1
theorem x_put {idx ci j k : Nat} {ty : FieldType} {fs fs' : List Value} {v : Value} (hL : x_FP M.1.cls idx ci j ty) (hd : decode M.2.1 pc = .ok (.putfield idx, 3)) (hk : k < x_N) (hc : h k = .inr (ci, fs)) (hn : narrow ty v = v) (hf : fits ty v = true) (hr : ∀ ad, x_t ad v = v) (hl : j < fs.length) (hs : fs.set j v = fs') (k0 : x_V d M (pc + 3) ls st (x_up h k (.inr (ci, fs'))) Q) : x_V d M pc ls (v :: .ref k :: st) h Q := by
  subst hs
  intro p l e s m args below meth c D dA ad A lsc H locs E Wd Lc
  obtain ⟨C, T, N, hC, hj, hin, hlk, hfin, hty, ⟨ty0, hty0⟩, hnm⟩ := hL
  have he : (x_w dA ad h)[k]? = some (ad k, .inr (ci, fs.map (x_t ad))) := by rw [x_w_get hk, hc]; rfl
  have hset : (x_w dA ad h).set k (ad k, .inr (ci, (fs.map (x_t ad)).set j v)) = x_w dA ad (x_up h k (.inr (ci, fs.set j v))) := by
    rw [← x_w_set hk]
    show _ = (x_w dA ad h).set k (ad k, .inr (ci, (fs.set j v).map (x_t ad)))
    rw [List.map_set, hr ad]
  have kk : ∀ (H1 : Heap) (locs1 : List Loc), va_P D vwCl (x_w dA ad (x_up h k (.inr (ci, fs.set j v)))) H1 → va_D A (x_w dA ad (x_up h k (.inr (ci, fs.set j v)))) → va_S A s.heap H1 locs1 → W p l e (x_rm d) s m args below meth c H1 locs1 0 0 (MQ below (x_Qm D dA ad A Q) args s 0 0 A) (F0 m (pc + 3) lsc (st.map (x_t ad))) :=
    fun H1 locs1 hP1 hD1 hS1 => k0 p l e s m args below meth c D dA ad A lsc H1 locs1 E ⟨hD1, hS1, hP1, Wd.2.2.2⟩ Lc
  show W p l e (x_rm d) s m args below meth c H locs 0 0 _ (F0 m pc lsc (x_t ad v :: .ref (ad k) :: st.map (x_t ad)))
  rw [hr ad]
  rcases hlk with hlk | ⟨host, hlk⟩
  · exact va_put E.1 E.2.1 E.2.2.2.2.2.1 (fun w hw => List.mem_cons_of_mem _ (hin w hw)) ty0 hty0 hnm E.2.2.2.2.1 E.2.2.2.2.2.2.2.1 Wd.2.2.1 Wd.1 Wd.2.1 k he hC j hj (E.2.2.2.2.2.1 _ (List.mem_cons_of_mem _ hlk)) (fun _ h9 => h9) hfin hty hn hf (by simpa using hl) hd (fun H1 locs1 hP1 hD1 hS1 => kk H1 locs1 (by rw [← hset]; exact hP1) (by rw [← hset]; exact hD1) hS1)
  · exact va_putN E.1 E.2.1 E.2.2.2.2.2.1 (fun w hw => List.mem_cons_of_mem _ (hin w hw)) ty0 hty0 hnm E.2.2.2.2.1 E.2.2.2.2.2.2.2.1 Wd.2.2.1 Wd.1 Wd.2.1 k he hC j hj (va_Nw.use rfl (E.2.2.2.2.2.2.2.2 _ hlk)) (fun _ h9 => h9) hfin hty hn hf (by simpa using hl) hd (fun H1 locs1 hP1 hD1 hS1 => kk H1 locs1 (by rw [← hset]; exact hP1) (by rw [← hset]; exact hD1) hS1)
end XV
