/-! constructors: a machine whose world grows -/
def y_K (D : va_G) (dA : Nat → ClassId) (U : State) : Prop := x_K D dA U ∧ va_AO "NineNames$Setting" U
theorem y_K_warm {D : va_G} {dA : Nat → ClassId} {s U : State} (hW : s.WarmedH U.vm) (h : y_K D dA s) : y_K D dA U := ⟨x_K_warm hW h.1, va_AO.moved hW.alike h.2⟩
def y_Pm (D : va_G) (dA : Nat → ClassId) (as : List Value) (ws : va_W) (sz : Nat) : Array Value → State → Prop := va_Pc as (fun U => U.heap.size = sz ∧ va_P D vwCl ws U.heap ∧ y_K D dA U ∧ va_D (fun _ => True) ws)
theorem y_blind (D : va_G) (dA : Nat → ClassId) (as : List Value) (ws : va_W) (sz : Nat) : FrameBlind (y_Pm D dA as ws sz) := by
  intro a U g mk q
  obtain ⟨e, hsz, hP, hK, hD⟩ := q
  exact ⟨e, hsz, hP, ⟨⟨va_K.moved (u := U) (U := U.calling g mk a) (Vm.Alike.refl U.vm) hK.1.1, x_nest_same (u := U) (U := U.calling g mk a) rfl hK.1.2⟩, va_AO.moved (u := U) (U := U.calling g mk a) (Vm.Alike.refl U.vm) hK.2⟩, hD⟩
def y_rm (d mc ms : Nat) : Room := { frames := d, cells := mc, slots := ms, locals := 40 * d }
def y_Q (D : va_G) (A : Nat → Prop) (Qw : (Nat → Nat) → va_W) : Array Value → State → Outcome → State → Prop := va_Qv (fun _ : Nat → Nat => True) (fun u t => va_P D vwCl (Qw u) t.heap ∧ va_D A (Qw u)) A
/-- a constructor's contract: out of the object alone comes a world -/
def y_Ct (d mc ms : Nat) (M : x_M) (c0 : va_E) (Qw : (Nat → ClassId) → Nat → (Nat → Nat) → va_W) : Prop :=
  ∀ (l : Launch) (D : va_G) (dA : Nat → ClassId) (q sz : Nat), Met l M.1 (x_ws M) (y_rm d mc ms) (y_Pm D dA [.ref q] [(q, c0)] sz) (y_Q D (va_A [(q, c0)] sz) (Qw dA q)) mc ms (va_A [(q, c0)] sz)
def y_Ev (M : x_M) (p : Program) (s : State) (m : MethodId) (args : Array Value) (meth : Method) (c : Code) (D : va_G) (dA : Nat → ClassId) : Prop :=
  p.tables.exec = Jvm.exec ∧ c.code = M.2.1 ∧ meth.sig.returnType = M.2.2.2 ∧ c.maxLocals = M.2.2.1 ∧ s.vm.findClass M.1.cls = some m.cls ∧ (∀ w ∈ x_ws M, w.before args s = true) ∧ meth.locks = false ∧ y_K D dA s ∧ meth.name = "<init>"
def y_Wd (D : va_G) (A : Nat → Prop) (ws : va_W) (s : State) (H : Heap) (locs : List Loc) : Prop := va_D A ws ∧ va_S A s.heap H locs ∧ va_P D vwCl ws H ∧ ∀ q, s.heap.size ≤ q → A q
def y_V (D : va_G) (dA : Nat → ClassId) (d mc ms : Nat) (M : x_M) (pc : Nat) (ls : List (Nat × Value)) (st : List Value) (ws : va_W) (cells slots : Nat) (Qw : (Nat → Nat) → va_W) : Prop :=
  ∀ (p : Program) (l : Launch) (e : Env) (s : State) (m : MethodId) (args : Array Value) (below : List Frame) (meth : Method) (c : Code) (A : Nat → Prop) (lsc : Array Slot) (H : Heap) (locs : List Loc),
    y_Ev M p s m args meth c D dA → y_Wd D A ws s H locs → lv_has lsc M.2.2.1 ls → W p l e (y_rm d mc ms) s m args below meth c H locs cells slots (MQ below (y_Q D A Qw) args s mc ms A) (F0 m pc lsc st)
theorem y_enter {d mc ms : Nat} {M : x_M} {c0 : va_E} {Qw : (Nat → ClassId) → Nat → (Nat → Nat) → va_W} (hp : plainName M.1.cls = true) (hnm : M.1.name = "<init>") (hs : 1 ≤ M.2.2.1) (k : ∀ (D : va_G) (dA : Nat → ClassId) (q : Nat), y_V D dA d mc ms M 0 [(0, .ref q)] [] [(q, c0)] 0 0 (Qw dA q)) : y_Ct d mc ms M c0 Qw := by
  intro l D dA q sz
  refine Met.ofW (cc := M.2.1) (maxL := M.2.2.1) (ret := M.2.2.2) hp rfl ?_
  intro p e s m args below meth c s₁ B hml hv
  obtain ⟨rfl, hsz, hP, hK, hD0⟩ := hv
  subst hsz
  have hl := lv_entry [Value.ref q] (n := M.2.2.1) (by exact hs)
  rw [lg_entry_eq]
  generalize (lg_sl [Value.ref q] ++ List.replicate (M.2.2.1 - (lg_sl [Value.ref q]).length) Slot.unset).toArray = lsc at hl ⊢
  exact k D dA q p l e s m _ below meth c _ lsc s.heap [] ⟨B.exec, B.bytes, B.returns, hml, findClass_of_methodNamed B.named, atoms_spec (ws := x_ws M) B.pre, B.notSynchronized, hK, (name_of_methodNamed B.named B.method).1.trans hnm⟩
    ⟨hD0.self, va_S.rf, hP, fun q hq => Or.inr hq⟩ hl
theorem y_nd : ∀ l : List Nat, l.Nodup → va_nd l = true
  | [], _ => rfl
  | a :: l, h => by
    rw [List.nodup_cons] at h
    unfold va_nd
    rw [Bool.and_eq_true, decide_eq_true_eq]
    exact ⟨h.1, y_nd l h.2⟩
/-- what a class that is made is known by -/
def x_NW (own : String) (idx ci N : Nat) (fs : List Value) : Prop := ∃ (C : String) (T : u_T), vwCl[ci]? = some (C, T, N) ∧ (∀ w ∈ u_ws C T N, w ∈ x_base) ∧ Cond.classLink own idx C ∈ x_base ∧ Cond.instantiable C N ∈ x_base ∧ Cond.initialized C ∈ x_base ∧ ∃ ty : Nat → FieldType, (∀ k, k < N → parseFieldDescriptor (T k).2.2.1 = some (ty k)) ∧ ∀ j, j < N → defaultValue (ty j) = vp_V fs j
/-- a final field, put by its own constructor -/
def x_FF (own : String) (idx ci j : Nat) (ty : FieldType) : Prop := ∃ (C : String) (T : u_T) (N : Nat), vwCl[ci]? = some (C, T, N) ∧ j < N ∧ (∀ w ∈ u_ws C T N, w ∈ x_base) ∧ Cond.fieldLink own idx (T j).1 (T j).2.1 (T j).2.2.1 ∈ x_base ∧ (T j).2.2.2 = true ∧ (T j).1 = own ∧ parseFieldDescriptor (T j).2.2.1 = some ty ∧ (∃ ty0 : Nat → FieldType, ∀ k, k < N → parseFieldDescriptor (T k).2.2.1 = some (ty0 k)) ∧ (∀ a, a < N → ∀ b, b < N → a ≠ b → (T a).2.1 ≠ (T b).2.1)
/-- an object is made, and its constructor called -/
theorem w_newi {p : Program} {l : Launch} {e : Env} {R : Room} {s : State} {m : MethodId} {args : Array Value} {below : List Frame} {meth : Method} {c : Code} {H : Heap} {locs : List Loc} {cells slots : Nat} {Q : State → Prop} {D : va_G} {dA : Nat → ClassId} {A : Nat → Prop} {ws : va_W} {lsc : Array Slot} {st : List Value} {own : String} {cc : ByteArray} {Ts : List Cond}
    {pc idx ci N : Nat} {fs : List Value} {mc' ms' : Nat} {Qw' : (Nat → ClassId) → Nat → (Nat → Nat) → va_W}
    (hx : p.tables.exec = Jvm.exec) (hb : c.code = cc) (hown : s.vm.findClass own = some m.cls) (hts : ∀ w ∈ Ts, w.before args s = true) (hsub : ∀ w ∈ x_base, w ∈ Ts) (hK : y_K D dA s) (Wd : y_Wd D A ws s H locs) (hN : x_NW own idx ci N fs) (hd1 : decode cc pc = .ok (.new idx, 3)) (hd2 : decode cc (pc + 3) = .ok (.dup, 1)) (hc : cells + 1 ≤ R.cells) (hs : slots + N ≤ R.slots)
    (hrun : ∀ (q : Nat) (H1 : Heap), va_P D vwCl [(q, .inr (ci, fs))] H1 → va_D (fun _ => True) [(q, .inr (ci, fs))] → va_Run p l e R s m args below meth c H1 locs (cells + 1) (slots + N) mc' ms' (F0 m (pc + 4) lsc (.ref q :: .ref q :: st)) (.ref q :: st) (y_Q D (va_A [(q, .inr (ci, fs))] H1.size) (Qw' dA q) #[.ref q]) (va_A [(q, .inr (ci, fs))] H1.size))
    (k : ∀ (q : Nat) (u : Nat → Nat) (H2 : Heap) (locs2 : List Loc), y_Wd D A (ws ++ Qw' dA q u) s H2 locs2 → W p l e R s m args below meth c H2 locs2 (cells + 1 + mc') (slots + N + ms') Q (F0 m (pc + 7) lsc (.ref q :: st))) :
    W p l e R s m args below meth c H locs cells slots Q (F0 m pc lsc st) := by
  obtain ⟨C, T, hC1, hin, hcl, hinst, hini, ty, hty, hfs⟩ := hN
  refine va_new (ci := ci) (fs := fs) (C := C) (T := T) (N := N) hx hb hts (fun w hw => hsub _ (hin w hw)) ty hty hown (hts _ (hsub _ hcl)) (hts _ (hsub _ hinst)) (hts _ (hsub _ hini)) hK.1.1 Wd.2.2.1 Wd.1 Wd.2.1 Wd.2.2.2 hC1 hfs hc hs hd1 (fun q H1 hP1 hD1 hS1 => ?_)
  refine lv_dup hx hb hd2 rfl ?_
  have hone : [ws.length].map (fun i => (ws ++ [(q, (.inr (ci, fs) : va_E))])[i]?) = [(q, (.inr (ci, fs) : va_E))].map some := by simp
  have hP2 : va_P D vwCl [(q, .inr (ci, fs))] H1 := hP1.sub [ws.length] (by simp)
  have hD2 : va_D A [(q, .inr (ci, fs))] := hD1.sub [ws.length] (y_nd _ (by simp)) hone
  have hF := va_free (wc := [(q, .inr (ci, fs))]) hD1 hS1 Wd.2.2.2 [ws.length] hone
  refine va_callv (hrun q H1 hP2 (hD2.weaken (fun _ _ _ _ => trivial))) hS1 (fun q9 _ h => hF q9 h) hF (fun u t H2 locs2 ht hvm hw hB hz1 hk1 hS2 => ?_)
  obtain ⟨hP3, hD3⟩ := va_join (wr := ws) (w1 := Qw' dA q u) hP1 hD1 [ws.length] (List.range ws.length) hone (by
      apply List.ext_getElem?
      intro i
      by_cases hi : i < ws.length
      · simp [hi, List.getElem?_append_left hi]
      · simp [hi, List.getElem?_eq_none (Nat.le_of_not_lt hi)]) (y_nd _ List.nodup_range) (fun i hi => by
      have := List.mem_range.mp hi
      simp
      omega) hk1 hF (by rw [← ht]; exact hB.1) hB.2
  exact k q u H2 locs2 ⟨hD3, hS2, hP3, Wd.2.2.2⟩
section YV
variable {D : va_G} {dA : Nat → ClassId} {d mc ms : Nat} {M : x_M} {pc : Nat} {ls : List (Nat × Value)} {st : List Value} {ws : va_W} {cells slots : Nat} {Qw : (Nat → Nat) → va_W}
theorem y_newi {idx ix2 ci N : Nat} {fs : List Value} {host : String} {d' mc' ms' : Nat} {M' : x_M} {Qw' : (Nat → ClassId) → Nat → (Nat → Nat) → va_W} (hN : x_NW M.1.cls idx ci N fs) (hd1 : decode M.2.1 pc = .ok (.new idx, 3)) (hd2 : decode M.2.1 (pc + 3) = .ok (.dup, 1)) (hd3 : decode M.2.1 (pc + 4) = .ok (.invokespecial ix2, 3)) (hC : y_Ct d' mc' ms' M' (.inr (ci, fs)) Qw') (hB : x_CB M' 0) (hi : Cond.instanceMethod M'.1 ∈ x_base) (hl : Cond.methodLinkNest M.1.cls ix2 M'.1 host ∈ x_nest) (hnm : M'.1.name = "<init>") (hret : M'.2.2.2 = none)
    (hdd : d' < d) (hc : cells + 1 + mc' ≤ mc) (hs : slots + N + ms' ≤ ms) (hst : (st.map fun v => v.category).sum ≤ 7) (k : ∀ (q : Nat) (u : Nat → Nat), y_V D dA d mc ms M (pc + 7) ls (.ref q :: st) (ws ++ Qw' dA q u) (cells + 1 + mc') (slots + N + ms') Qw) : y_V D dA d mc ms M pc ls st ws cells slots Qw := by
  intro p l e s m args below meth c A lsc H locs E Wd Lc
  have hts := E.2.2.2.2.2.1
  have hb : ∀ w ∈ x_base, w.before args s = true := fun w hw => hts w (List.mem_cons_of_mem _ hw)
  have hK := E.2.2.2.2.2.2.2.1
  have hw : x_ws M' = Cond.code M'.1 M'.2.1 M'.2.2.1 none :: x_base := by unfold x_ws; rw [hret]
  have hR : (y_rm d' mc' ms').frames + 1 ≤ (y_rm d mc ms).frames ∧ 8 + (M'.2.2.1 + 11) + (y_rm d' mc' ms').locals ≤ (y_rm d mc ms).locals := by
    have := hB.2.2.2
    refine ⟨?_, ?_⟩
    · show d' + 1 ≤ d; omega
    · show 8 + (M'.2.2.1 + 11) + 40 * d' ≤ 40 * d; omega
  refine w_newi (mc' := mc') (ms' := ms') (Qw' := Qw') E.1 E.2.1 E.2.2.2.2.1 hts (fun w hw => List.mem_cons_of_mem _ hw) hK Wd hN hd1 hd2 (by show cells + 1 ≤ mc; omega) (by show slots + N ≤ ms; omega) (fun q H1 hP1 hD1 => ?_) (fun q u H2 locs2 Wd2 => k q u p l e s m args below meth c A lsc H2 locs2 E Wd2 Lc)
  refine va_runIN (As := []) (rest := .ref q :: st) ⟨E.1, E.2.1, E.2.2.2.1, E.2.2.2.2.1, hts⟩ (hC l D dA q H1.size) ⟨va_cnB 0 hts (x_good hB.1) hw rfl rfl (hK.1.2 _ hl) (hb _ hB.2.1) hB.2.2.1 hR, hnm, hb _ hi⟩ ⟨y_blind _ _ _ _ _, fun U hU hW => ⟨rfl, by rw [hU], by rw [hU]; exact hP1, y_K_warm hW hK, hD1⟩⟩ rfl rfl Lc.1 rfl (lv_room ?_) hd3 ⟨hc, hs⟩
  show 1 + (st.map fun v => v.category).sum ≤ 8
  omega
theorem y_aload (j : Nat) {n : Fin 4} {i a : Nat} (hd : decode M.2.1 pc = .ok (.aload_n n, 1)) (hi : (n : Nat) = i) (hl : ls[j]? = some (i, .ref a)) (k : y_V D dA d mc ms M (pc + 1) ls (.ref a :: st) ws cells slots Qw) : y_V D dA d mc ms M pc ls st ws cells slots Qw := by
  intro p l e s m args below meth c A lsc H locs E Wd Lc
  exact lv_aload_n E.1 E.2.1 hd hi (lv_at Lc j hl) (k p l e s m args below meth c A lsc H locs E Wd Lc)
theorem y_iload (j : Nat) {n : Fin 4} {i : Nat} {a : Int32} (hd : decode M.2.1 pc = .ok (.iload_n n, 1)) (hi : (n : Nat) = i) (hl : ls[j]? = some (i, .int a)) (k : y_V D dA d mc ms M (pc + 1) ls (.int a :: st) ws cells slots Qw) : y_V D dA d mc ms M pc ls st ws cells slots Qw := by
  intro p l e s m args below meth c A lsc H locs E Wd Lc
  exact lv_iload_n E.1 E.2.1 hd hi (lv_at Lc j hl) (k p l e s m args below meth c A lsc H locs E Wd Lc)
theorem y_istore {n : Fin 4} {i : Nat} {x : Int32} {ls' : List (Nat × Value)} (hd : decode M.2.1 pc = .ok (.istore_n n, 1)) (hi : (n : Nat) = i) (hn : i < M.2.2.1) (hl : (i, Value.int x) :: ls.filter (fun q => !(q.1 == i) && !(q.1 + 1 == i && q.2.category == 2)) = ls') (k : y_V D dA d mc ms M (pc + 1) ls' st ws cells slots Qw) : y_V D dA d mc ms M pc ls (.int x :: st) ws cells slots Qw := by
  intro p l e s m args below meth c A lsc H locs E Wd Lc
  exact lv_istore_n E.1 E.2.1 hd hi Lc hn hl (fun lsc' Lc' => k p l e s m args below meth c A lsc' H locs E Wd Lc')
theorem y_iinc (j : Nat) {i : Nat} {n : Int} {x v : Int32} {ls' : List (Nat × Value)} (hd : decode M.2.1 pc = .ok (.iinc i n, 3)) (hk : ls[j]? = some (i, .int x)) (hv : x + Int32.ofInt n = v) (hn : i < M.2.2.1) (hl : (i, Value.int v) :: ls.filter (fun q => !(q.1 == i) && !(q.1 + 1 == i && q.2.category == 2)) = ls') (k : y_V D dA d mc ms M (pc + 3) ls' st ws cells slots Qw) : y_V D dA d mc ms M pc ls st ws cells slots Qw := by
  intro p l e s m args below meth c A lsc H locs E Wd Lc
  exact lv_iinc E.1 E.2.1 hd Lc hk hv hn hl (fun lsc' Lc' => k p l e s m args below meth c A lsc' H locs E Wd Lc')
theorem y_ge_y {x y : Int32} {off : Int} (tgt : Nat) (hd : decode M.2.1 pc = .ok (.if_icmp .ge off, 3)) (ht : (pc : Int) + off = (tgt : Int)) (h : y ≤ x) (k : y_V D dA d mc ms M tgt ls st ws cells slots Qw) : y_V D dA d mc ms M pc ls (.int y :: .int x :: st) ws cells slots Qw := by
  intro p l e s m args below meth c A lsc H locs E Wd Lc
  exact lv_icmp_ge E.1 E.2.1 hd ht (fun _ => k p l e s m args below meth c A lsc H locs E Wd Lc) (fun hn => absurd h hn)
theorem y_ge_n {x y : Int32} {off : Int} (tgt : Nat) (hd : decode M.2.1 pc = .ok (.if_icmp .ge off, 3)) (ht : (pc : Int) + off = (tgt : Int)) (h : ¬ y ≤ x) (k : y_V D dA d mc ms M (pc + 3) ls st ws cells slots Qw) : y_V D dA d mc ms M pc ls (.int y :: .int x :: st) ws cells slots Qw := by
  intro p l e s m args below meth c A lsc H locs E Wd Lc
  exact lv_icmp_ge E.1 E.2.1 hd ht (fun hy => absurd hy h) (fun _ => k p l e s m args below meth c A lsc H locs E Wd Lc)
theorem y_goto {off : Int} (tgt : Nat) (hd : decode M.2.1 pc = .ok (.goto off, 3)) (ht : (pc : Int) + off = (tgt : Int)) (k : y_V D dA d mc ms M tgt ls st ws cells slots Qw) : y_V D dA d mc ms M pc ls st ws cells slots Qw := by
  intro p l e s m args below meth c A lsc H locs E Wd Lc
  exact lv_goto E.1 E.2.1 hd ht (k p l e s m args below meth c A lsc H locs E Wd Lc)
theorem y_iconst {n : Int} {v : Int32} (hd : decode M.2.1 pc = .ok (.iconst n, 1)) (hv : Int32.ofInt n = v) (k : y_V D dA d mc ms M (pc + 1) ls (.int v :: st) ws cells slots Qw) : y_V D dA d mc ms M pc ls st ws cells slots Qw := by
  intro p l e s m args below meth c A lsc H locs E Wd Lc
  exact lv_iconst E.1 E.2.1 hd hv (k p l e s m args below meth c A lsc H locs E Wd Lc)
theorem y_bipush {n : Int} {v : Int32} (hd : decode M.2.1 pc = .ok (.bipush n, 2)) (hv : (Int8.ofInt n).toInt32 = v) (k : y_V D dA d mc ms M (pc + 2) ls (.int v :: st) ws cells slots Qw) : y_V D dA d mc ms M pc ls st ws cells slots Qw := by
  intro p l e s m args below meth c A lsc H locs E Wd Lc
  exact lv_bipush E.1 E.2.1 hd hv (k p l e s m args below meth c A lsc H locs E Wd Lc)
theorem y_lconst {n : Fin 2} {v : Int64} (hd : decode M.2.1 pc = .ok (.lconst n, 1)) (hv : Int64.ofNat (n : Nat) = v) (k : y_V D dA d mc ms M (pc + 1) ls (.long v :: st) ws cells slots Qw) : y_V D dA d mc ms M pc ls st ws cells slots Qw := by
  intro p l e s m args below meth c A lsc H locs E Wd Lc
  exact lv_lconst E.1 E.2.1 hd hv (k p l e s m args below meth c A lsc H locs E Wd Lc)
theorem y_oi {idx a : Nat} (hlk : Cond.methodLink M.1.cls idx objectInit ∈ x_base) (hd : decode M.2.1 pc = .ok (.invokespecial idx, 3)) (hdd : 1 ≤ d) (k : y_V D dA d mc ms M (pc + 3) ls [] ws cells slots Qw) : y_V D dA d mc ms M pc ls [.ref a] ws cells slots Qw := by
  intro p l e s m args below meth c A lsc H locs E Wd Lc
  have hb : ∀ w ∈ x_base, w.before args s = true := fun w hw => E.2.2.2.2.2.1 w (List.mem_cons_of_mem _ hw)
  refine W.objInit E.1 E.2.1 E.2.2.2.2.1 (hb _ hlk) (hb (.instanceMethod objectInit) (x_in 69 (by decide +kernel) rfl)) (hb (.code objectInit ⟨#[0xb1]⟩ 1 none) (x_in 70 (by decide +kernel) rfl)) rfl (by rw [E.2.2.2.1]; exact Lc.1) rfl hd (by show 1 ≤ d; exact hdd) (by show 2 * 0 + 0 + 12 ≤ 40 * d; omega) ?_
  exact W.eq (g2 := F0 m (pc + 3) lsc []) rfl (k p l e s m args below meth c A lsc H locs E Wd Lc)
theorem y_put {idx ci j a : Nat} {ty : FieldType} {fs : List Value} {v : Value} {ws' : va_W} (q0 : Nat) (hL : x_FP M.1.cls idx ci j ty) (hd : decode M.2.1 pc = .ok (.putfield idx, 3)) (he : ws[q0]? = some (a, .inr (ci, fs))) (hn : narrow ty v = v) (hf : fits ty v = true) (hl : j < fs.length) (hs : ws.set q0 (a, .inr (ci, fs.set j v)) = ws') (k : y_V D dA d mc ms M (pc + 3) ls st ws' cells slots Qw) : y_V D dA d mc ms M pc ls (v :: .ref a :: st) ws cells slots Qw := by
  subst hs
  intro p l e s m args below meth c A lsc H locs E Wd Lc
  obtain ⟨C, T, N, hC, hj, hin, hlk, hfin, hty, ⟨ty0, hty0⟩, hnm⟩ := hL
  have hK := E.2.2.2.2.2.2.2.1
  rcases hlk with hlk | ⟨host, hlk⟩
  · exact va_put E.1 E.2.1 E.2.2.2.2.2.1 (fun w hw => List.mem_cons_of_mem _ (hin w hw)) ty0 hty0 hnm E.2.2.2.2.1 hK.1.1 Wd.2.2.1 Wd.1 Wd.2.1 q0 he hC j hj (E.2.2.2.2.2.1 _ (List.mem_cons_of_mem _ hlk)) (fun _ h9 => h9) hfin hty hn hf hl hd (fun H1 locs1 hP1 hD1 hS1 => k p l e s m args below meth c A lsc H1 locs1 E ⟨hD1, hS1, hP1, Wd.2.2.2⟩ Lc)
  · exact va_putN E.1 E.2.1 E.2.2.2.2.2.1 (fun w hw => List.mem_cons_of_mem _ (hin w hw)) ty0 hty0 hnm E.2.2.2.2.1 hK.1.1 Wd.2.2.1 Wd.1 Wd.2.1 q0 he hC j hj (va_Nw.use rfl (hK.1.2 _ hlk)) (fun _ h9 => h9) hfin hty hn hf hl hd (fun H1 locs1 hP1 hD1 hS1 => k p l e s m args below meth c A lsc H1 locs1 E ⟨hD1, hS1, hP1, Wd.2.2.2⟩ Lc)
theorem y_putF {idx ci j a : Nat} {ty : FieldType} {fs : List Value} {v : Value} {ws' : va_W} (q0 : Nat) (hL : x_FF M.1.cls idx ci j ty) (hd : decode M.2.1 pc = .ok (.putfield idx, 3)) (he : ws[q0]? = some (a, .inr (ci, fs))) (hn : narrow ty v = v) (hf : fits ty v = true) (hl : j < fs.length) (hs : ws.set q0 (a, .inr (ci, fs.set j v)) = ws') (k : y_V D dA d mc ms M (pc + 3) ls st ws' cells slots Qw) : y_V D dA d mc ms M pc ls (v :: .ref a :: st) ws cells slots Qw := by
  subst hs
  intro p l e s m args below meth c A lsc H locs E Wd Lc
  obtain ⟨C, T, N, hC, hj, hin, hlk, hfin, hdecl, hty, ⟨ty0, hty0⟩, hnm⟩ := hL
  have hK := E.2.2.2.2.2.2.2.1
  exact va_putF E.1 E.2.1 E.2.2.2.2.2.1 (fun w hw => List.mem_cons_of_mem _ (hin w hw)) ty0 hty0 hnm E.2.2.2.2.1 hK.1.1 Wd.2.2.1 Wd.1 Wd.2.1 q0 he hC j hj (E.2.2.2.2.2.1 _ (List.mem_cons_of_mem _ hlk)) (fun _ h9 => h9) hfin E.2.2.2.2.2.2.2.2 hdecl hty hn hf hl hd (fun H1 locs1 hP1 hD1 hS1 => k p l e s m args below meth c A lsc H1 locs1 E ⟨hD1, hS1, hP1, Wd.2.2.2⟩ Lc)
theorem y_get {idx ci j a : Nat} {fs : List Value} {v : Value} (q0 : Nat) (hL : x_FL M.1.cls idx ci j) (hd : decode M.2.1 pc = .ok (.getfield idx, 3)) (he : ws[q0]? = some (a, .inr (ci, fs))) (hv : fs[j]? = some v) (k : y_V D dA d mc ms M (pc + 3) ls (v :: st) ws cells slots Qw) : y_V D dA d mc ms M pc ls (.ref a :: st) ws cells slots Qw := by
  intro p l e s m args below meth c A lsc H locs E Wd Lc
  obtain ⟨C, T, N, hC, hj, hin, hlk⟩ := hL
  have hK := E.2.2.2.2.2.2.2.1
  have k1 := k p l e s m args below meth c A lsc H locs E Wd Lc
  rcases hlk with hlk | ⟨host, hlk⟩
  · exact va_get E.1 E.2.1 E.2.2.2.2.2.1 (fun w hw => List.mem_cons_of_mem _ (hin w hw)) E.2.2.2.2.1 hK.1.1 Wd.2.2.1 q0 he hC j hj (E.2.2.2.2.2.1 _ (List.mem_cons_of_mem _ hlk)) (fun _ h9 => h9) hv hd k1
  · exact va_getN E.1 E.2.1 E.2.2.2.2.2.1 (fun w hw => List.mem_cons_of_mem _ (hin w hw)) E.2.2.2.2.1 hK.1.1 Wd.2.2.1 q0 he hC j hj (va_Nw.use rfl (hK.1.2 _ hlk)) (fun _ h9 => h9) hv hd k1
theorem y_newaI {n : Int32} (N : Nat) (hd : decode M.2.1 pc = .ok (.newarray .int, 2)) (hn : ¬ n < 0) (hN : n.toNatClampNeg = N) (hb : N ≤ 100) (hc : cells + 1 ≤ mc) (hs : slots + N ≤ ms) (k : ∀ q : Nat, y_V D dA d mc ms M (pc + 2) ls (.ref q :: st) (ws ++ [(q, .inl (dA 0, N, .inl (fun _ => nI 0)))]) (cells + 1) (slots + N) Qw) : y_V D dA d mc ms M pc ls (.int n :: st) ws cells slots Qw := by
  intro p l e s m args below meth c A lsc H locs E Wd Lc
  have hK := E.2.2.2.2.2.2.2.1.1.1
  have harr : (Cond.arrayClass (newarray.typeOf .int)).before args s = true := E.2.2.2.2.2.1 (.arrayClass .int) (List.mem_cons_of_mem _ (x_in 86 (by decide +kernel) rfl))
  refine va_newa (ty := .int) (a0 := (N, .inl (fun _ => nI 0))) E.1 E.2.1 harr rfl hK Wd.2.2.1 Wd.1 Wd.2.1 Wd.2.2.2 (fun cA => rfl) hn hN (by show N * 4 ≤ 536870912; omega) hc hs hd (fun q cA H1 hK1 hP1 hD1 hS1 => ?_)
  have e0 : cA = dA 0 := by
    have h1 : s.vm.findClass ("[" ++ (FieldType.int).toString) = some cA := (hK1.2 4 (cA, .int) rfl).2
    have h2 : s.vm.findClass ("[" ++ (FieldType.int).toString) = some (dA 0) := (hK.2 0 (dA 0, .int) rfl).2
    exact Option.some.inj (h1.symm.trans h2)
  subst e0
  exact k q p l e s m args below meth c A lsc H1 locs E ⟨hD1, hS1, hP1, Wd.2.2.2⟩ Lc
theorem y_newaZ {n : Int32} (N : Nat) (hd : decode M.2.1 pc = .ok (.newarray .boolean, 2)) (hn : ¬ n < 0) (hN : n.toNatClampNeg = N) (hb : N ≤ 100) (hc : cells + 1 ≤ mc) (hs : slots + N ≤ ms) (k : ∀ q : Nat, y_V D dA d mc ms M (pc + 2) ls (.ref q :: st) (ws ++ [(q, .inl (dA 1, N, .inl (fun _ => nI 0)))]) (cells + 1) (slots + N) Qw) : y_V D dA d mc ms M pc ls (.int n :: st) ws cells slots Qw := by
  intro p l e s m args below meth c A lsc H locs E Wd Lc
  have hK := E.2.2.2.2.2.2.2.1.1.1
  have harr : (Cond.arrayClass (newarray.typeOf .boolean)).before args s = true := E.2.2.2.2.2.1 (.arrayClass .boolean) (List.mem_cons_of_mem _ (x_in 121 (by decide +kernel) rfl))
  refine va_newa (ty := .boolean) (a0 := (N, .inl (fun _ => nI 0))) E.1 E.2.1 harr rfl hK Wd.2.2.1 Wd.1 Wd.2.1 Wd.2.2.2 (fun cA => rfl) hn hN (by show N * 1 ≤ 536870912; omega) hc hs hd (fun q cA H1 hK1 hP1 hD1 hS1 => ?_)
  have e0 : cA = dA 1 := by
    have h1 : s.vm.findClass ("[" ++ (FieldType.boolean).toString) = some cA := (hK1.2 4 (cA, .boolean) rfl).2
    have h2 : s.vm.findClass ("[" ++ (FieldType.boolean).toString) = some (dA 1) := (hK.2 1 (dA 1, .boolean) rfl).2
    exact Option.some.inj (h1.symm.trans h2)
  subst e0
  exact k q p l e s m args below meth c A lsc H1 locs E ⟨hD1, hS1, hP1, Wd.2.2.2⟩ Lc
theorem y_newaJ {n : Int32} (N : Nat) (hd : decode M.2.1 pc = .ok (.newarray .long, 2)) (hn : ¬ n < 0) (hN : n.toNatClampNeg = N) (hb : N ≤ 100) (hc : cells + 1 ≤ mc) (hs : slots + N ≤ ms) (k : ∀ q : Nat, y_V D dA d mc ms M (pc + 2) ls (.ref q :: st) (ws ++ [(q, .inl (dA 2, N, .inr (.inl (fun _ => lN 0))))]) (cells + 1) (slots + N) Qw) : y_V D dA d mc ms M pc ls (.int n :: st) ws cells slots Qw := by
  intro p l e s m args below meth c A lsc H locs E Wd Lc
  have hK := E.2.2.2.2.2.2.2.1.1.1
  have harr : (Cond.arrayClass (newarray.typeOf .long)).before args s = true := E.2.2.2.2.2.1 (.arrayClass .long) (List.mem_cons_of_mem _ (x_in 224 (by decide +kernel) rfl))
  refine va_newa (ty := .long) (a0 := (N, .inr (.inl (fun _ => lN 0)))) E.1 E.2.1 harr rfl hK Wd.2.2.1 Wd.1 Wd.2.1 Wd.2.2.2 (fun cA => rfl) hn hN (by show N * 8 ≤ 536870912; omega) hc hs hd (fun q cA H1 hK1 hP1 hD1 hS1 => ?_)
  have e0 : cA = dA 2 := by
    have h1 : s.vm.findClass ("[" ++ (FieldType.long).toString) = some cA := (hK1.2 4 (cA, .long) rfl).2
    have h2 : s.vm.findClass ("[" ++ (FieldType.long).toString) = some (dA 2) := (hK.2 2 (dA 2, .long) rfl).2
    exact Option.some.inj (h1.symm.trans h2)
  subst e0
  exact k q p l e s m args below meth c A lsc H1 locs E ⟨hD1, hS1, hP1, Wd.2.2.2⟩ Lc
theorem y_newq {n : Int32} (N : Nat) {idx : Nat} (hcl : Cond.classLink M.1.cls idx "NineNames$Setting" ∈ x_base) (hd : decode M.2.1 pc = .ok (.anewarray idx, 3)) (hn : ¬ n < 0) (hN : n.toNatClampNeg = N) (hb : N ≤ 100) (hc : cells + 1 ≤ mc) (hs : slots + N ≤ ms) (k : ∀ q : Nat, y_V D dA d mc ms M (pc + 3) ls (.ref q :: st) (ws ++ [(q, .inl (dA 3, N, .inr (.inr (.inr (.inr (fun _ => none))))))]) (cells + 1) (slots + N) Qw) : y_V D dA d mc ms M pc ls (.int n :: st) ws cells slots Qw := by
  intro p l e s m args below meth c A lsc H locs E Wd Lc
  have hK := E.2.2.2.2.2.2.2.1
  refine va_newq E.1 E.2.1 E.2.2.2.2.1 (E.2.2.2.2.2.1 _ (List.mem_cons_of_mem _ hcl)) hK.2 hK.1.1 Wd.2.2.1 Wd.1 Wd.2.1 Wd.2.2.2 hn hN (by omega) hc hs hd (fun q cA H1 hK1 hP1 hD1 hS1 => ?_)
  have e0 : cA = dA 3 := by
    obtain ⟨kA, comp, -, -, -, h1⟩ := (hK1.2 4 (cA, .object "NineNames$Setting") rfl).2
    obtain ⟨kA', comp', -, -, -, h2⟩ := (hK.1.1.2 3 (dA 3, .object "NineNames$Setting") rfl).2
    exact Option.some.inj (h1.symm.trans h2)
  subst e0
  exact k q p l e s m args below meth c A lsc H1 locs E ⟨hD1, hS1, hP1, Wd.2.2.2⟩ Lc
theorem y_aast {a v n : Nat} {vs : List Value} {f : Nat → Option Nat} {i : Int32} {ws' : va_W} (q0 qk : Nat) (hd : decode M.2.1 pc = .ok (.aastore, 1)) (ha : ws[q0]? = some (a, .inl (dA 3, n, .inr (.inr (.inr (.inr f)))))) (hv : ws[qk]? = some (v, .inr (3, vs))) (hin : vp_in i n) (hs : ws.set q0 (a, .inl (dA 3, n, .inr (.inr (.inr (.inr (va_up f i.toNatClampNeg (some v))))))) = ws') (k : y_V D dA d mc ms M (pc + 1) ls st ws' cells slots Qw) : y_V D dA d mc ms M pc ls (.ref v :: .int i :: .ref a :: st) ws cells slots Qw := by
  subst hs
  intro p l e s m args below meth c A lsc H locs E Wd Lc
  have hK := E.2.2.2.2.2.2.2.1
  exact va_astq (r := (RX3, TX3, 6)) E.1 E.2.1 hK.1.1 Wd.2.2.1 Wd.1 Wd.2.1 q0 3 qk 3 ha rfl hv rfl hin hd (fun H1 locs1 hP1 hD1 hS1 => k p l e s m args below meth c A lsc H1 locs1 E ⟨hD1, hS1, hP1, Wd.2.2.2⟩ Lc)
theorem y_ret (u : Nat → Nat) (hd : decode M.2.1 pc = .ok (.return_, 1)) (hr : M.2.2.2 = none) (hw : Qw u = ws) : y_V D dA d mc ms M pc ls [] ws mc ms Qw := by
  intro p l e s m args below meth c A lsc H locs E Wd Lc
  refine W.vret E.1 E.2.1 (E.2.2.1.trans hr) (fun t ht hW => ⟨⟨u, rfl, trivial, ?_, ?_⟩, Wd.2.1.F ht⟩) Wd.2.1.2.2 hd E.2.2.2.2.2.2.1
  · rw [hw, ht]; exact Wd.2.2.1
  · rw [hw]; exact Wd.1
theorem y_ws {ws' : va_W} {c' s' : Nat} (e : ws = ws') (ec : cells = c') (es : slots = s') (k : y_V D dA d mc ms M pc ls st ws' c' s' Qw) : y_V D dA d mc ms M pc ls st ws cells slots Qw := by
  subst e; subst ec; subst es; exact k
end YV
