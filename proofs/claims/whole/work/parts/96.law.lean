/-! THE CLAIM OUT OF ONE WALK OF THE LAW'S BODY. Your part is whole_start (and what it stands on); all else here is the same for every law, but numbers. -/
def R_law : String := "NineNamesLaw"
def lw_P (b : Addr) (xs : List Int32) (args : Array Value) (s : State) : Prop := args = #[.ref b] ∧ s.IntsAt b xs ∧ xs.length ≤ 2048 ∧ (Jvm.Cond.and given_1 narrow_1).before args s = true
def lw_Q (_ : Array Value) (s : State) (o : Outcome) (t : State) : Prop := o = .returned (some (.int 1)) ∧ Framed s o t [] 600000 7302250
def lw_Z (below : List Frame) (a : Array Value) (s : State) : State → Prop := fun t => ∃ o, t.status = .running ∧ Ended t below o ∧ lw_Q a s o t
/-- the law's own end, with 1 on the stack, nothing written that was there before, its room as the claim has it -/
theorem lw_ret {p : Program} {l : Launch} {e : Env} {s : State} {m : MethodId} {below : List Frame} {meth : Method} {c : Code} {b : Nat} (hx : p.tables.exec = Jvm.exec) (hb : c.code = code) (hr : meth.sig.returnType = ret) (hlocks : meth.locks = false) {pc : Nat} {H : Heap} {ls : Array Slot} (hdg : decode code pc = .ok (.ireturn, 1)) : W p l e room_1 s m #[Value.ref b] below meth c H [] 600000 7302250 (lw_Z below #[Value.ref b] s) (F0 m pc ls [.int 1]) := by
  intro T hT X
  obtain ⟨fs, hret, hrun, hended, hW, hframe⟩ := X.leave (v := some (.int 1)) (hlocks := hlocks) (fun h => by rw [hr] at h; cases h)
  have hmeth' : T.vm.method? m = some meth := X.method'
  refine ⟨T.setFrames fs, ?_, .returned (some (.int 1)), hrun, hended, rfl, ⟨_, rfl⟩, hW, hframe⟩
  jvm_step X.here [X.here.top, hx, hb, hdg, hmeth', hr, ret, narrow_b1]
  (try refine ⟨rfl, ?_⟩); (try refine ⟨rfl, ?_⟩)
  first | (intro acts; rw [hret _ acts rfl rfl rfl]) | rw [hret _ _ rfl rfl rfl]
  exact Steps.refl _
/-- what holds at the law's entry: the machine, the code, the tables' words (any of lw_tbl by 'hts w (by decide +kernel)'), the script of L ints xs at the cell b, what the Statement gives of the start (any of its parts by flat_of_before) -/
def lw_At (p : Program) (s : State) (m : MethodId) (meth : Method) (c : Code) (b L : Nat) (xs : Nat → Int32) : Prop :=
  p.tables.exec = Jvm.exec ∧ c.code = code ∧ meth.sig.returnType = ret ∧ c.maxLocals = 4 ∧ s.vm.findClass R_law = some m.cls ∧ (∀ w ∈ lw_tbl, w.before #[Value.ref b] s = true) ∧ va_X b L xs s s.heap ∧ b < s.heap.size ∧ meth.locks = false ∧ (Jvm.Cond.and given_1 narrow_1).before #[Value.ref b] s = true
/-! the law's own machine: its locals, the heap of places -/
def l_L (ad : Nat → Nat) (b : Nat) (lsc : Array Slot) (i : Nat) : Prop := lv_has lsc 4 [(0, .ref b), (1, .ref (ad 0)), (2, .ref (ad 30)), (3, .int (nI i))]
def l_V (p : Program) (l : Launch) (e : Env) (s : State) (m : MethodId) (below : List Frame) (meth : Method) (c : Code) (D : va_G) (dA : Nat → ClassId) (ad : Nat → Nat) (b : Nat) (lsc : Array Slot) (pc : Nat) (st : List Value) (h : x_H) : Prop :=
  ∀ (H : Heap) (locs : List Loc), x_Wd D dA ad (fun q => s.heap.size ≤ q) h s H locs → W p l e room_1 s m #[Value.ref b] below meth c H locs 43 578 (lw_Z below #[Value.ref b] s) (F0 m pc lsc st)
section LV
variable {p : Program} {l : Launch} {e : Env} {s : State} {m : MethodId} {below : List Frame} {meth : Method} {c : Code} {D : va_G} {dA : Nat → ClassId} {ad : Nat → Nat} {b L i : Nat} {xs : Nat → Int32} {lsc : Array Slot} {pc : Nat} {st : List Value} {h : x_H}
theorem l_x (C0 : lw_At p s m meth c b L xs) (Lc : l_L ad b lsc i) (hd : decode code pc = .ok (.aload_n 1, 1)) (k : l_V p l e s m below meth c D dA ad b lsc (pc + 1) (.ref (ad 0) :: st) h) : l_V p l e s m below meth c D dA ad b lsc pc st h := by
  intro H locs Wd
  exact lv_aload_n C0.1 C0.2.1 hd rfl (lv_at Lc 1 rfl) (k H locs Wd)
theorem l_m (C0 : lw_At p s m meth c b L xs) (Lc : l_L ad b lsc i) (hd : decode code pc = .ok (.aload_n 2, 1)) (k : l_V p l e s m below meth c D dA ad b lsc (pc + 1) (.ref (ad 30) :: st) h) : l_V p l e s m below meth c D dA ad b lsc pc st h := by
  intro H locs Wd
  exact lv_aload_n C0.1 C0.2.1 hd rfl (lv_at Lc 2 rfl) (k H locs Wd)
theorem l_sld {j : Nat} {x : Int32} (C0 : lw_At p s m meth c b L xs) (hj : j < L) (hL : L < 2 ^ 31) (hx : x = nI j) (hd : decode code pc = .ok (.iaload, 1)) (k : l_V p l e s m below meth c D dA ad b lsc (pc + 1) (.int (xs j) :: st) h) : l_V p l e s m below meth c D dA ad b lsc pc (.int x :: .ref b :: st) h := by
  subst hx
  intro H locs Wd
  refine va_sld (A := fun q => s.heap.size ≤ q) C0.1 C0.2.1 C0.2.2.2.2.2.2.1 C0.2.2.2.2.2.2.2.1 (Nat.not_le.mpr C0.2.2.2.2.2.2.2.1) Wd.2.1 (vp_in_nI hj hL) hd ?_
  rw [nI_clamp (by omega)]
  exact k H locs Wd
theorem l_arg (k : Nat) {n : Int} (C0 : lw_At p s m meth c b L xs) (hL : L ≤ 2048) (Lc : l_L ad b lsc i) (hik : i + k < L) (d1 : decode code pc = .ok (.aload_n 0, 1)) (d2 : decode code (pc + 1) = .ok (.iload_n 3, 1)) (d3 : decode code (pc + 2) = .ok (.iconst n, 1)) (hn : Int32.ofInt n = nI k) (d4 : decode code (pc + 3) = .ok (.iadd, 1)) (d5 : decode code (pc + 4) = .ok (.iaload, 1))
    (kk : l_V p l e s m below meth c D dA ad b lsc (pc + 5) (.int (xs (i + k)) :: st) h) : l_V p l e s m below meth c D dA ad b lsc pc st h := by
  intro H locs Wd
  refine lv_aload_n C0.1 C0.2.1 d1 rfl (lv_at Lc 0 rfl) ?_
  refine lv_iload_n C0.1 C0.2.1 d2 rfl (lv_at Lc 3 rfl) ?_
  refine lv_iconst (v := nI k) C0.1 C0.2.1 d3 hn ?_
  refine lv_iadd C0.1 C0.2.1 d4 ?_
  exact l_sld C0 hik (by omega) (nI_add i k) d5 kk H locs Wd
theorem l_eq {off : Int} {a : Int32} (C0 : lw_At p s m meth c b L xs) (hd : decode code pc = .ok (.if_icmp .eq off, 3)) (ht : (pc : Int) + off = ((826 : Nat) : Int)) (k : l_V p l e s m below meth c D dA ad b lsc 826 st h) : l_V p l e s m below meth c D dA ad b lsc pc (.int a :: .int a :: st) h := by
  intro H locs Wd
  exact lv_icmp_eq C0.1 C0.2.1 hd ht (fun _ => k H locs Wd) (fun hn => absurd rfl hn)
theorem l_bool {off off2 : Int} {x : Int32} (p1 p2 : Nat) (C0 : lw_At p s m meth c b L xs) (hd : decode code pc = .ok (.ifCond .eq off, 3)) (ht : (pc : Int) + off = (p1 : Int)) (d1 : decode code (pc + 3) = .ok (.iconst 1, 1)) (d2 : decode code (pc + 4) = .ok (.goto off2, 3)) (ht2 : ((pc + 4 : Nat) : Int) + off2 = (p2 : Int)) (d3 : decode code p1 = .ok (.iconst 0, 1)) (hp : p1 + 1 = p2)
    (k : l_V p l e s m below meth c D dA ad b lsc p2 (.int (nI (if x = 0 then 0 else 1)) :: st) h) : l_V p l e s m below meth c D dA ad b lsc pc (.int x :: st) h := by
  subst hp
  intro H locs Wd
  refine lv_if_eq C0.1 C0.2.1 hd ht (fun hz => ?_) (fun hz => ?_)
  · rw [if_pos hz] at k
    exact lv_iconst (v := nI 0) C0.1 C0.2.1 d3 (by decide) (k H locs Wd)
  · rw [if_neg hz] at k
    exact lv_iconst (v := nI 1) C0.1 C0.2.1 d1 (by decide) (lv_goto C0.1 C0.2.1 d2 ht2 (k H locs Wd))
theorem l_back {st0 : List Value} {a : Array Value} {Q' : Option Value → x_H → Prop} {H : Heap} {locs : List Loc} (Wd : x_Wd D dA ad (fun q => s.heap.size ≤ q) h s H locs) (hr : va_Run p l e room_1 s m #[Value.ref b] below meth c H locs 43 578 0 0 (F0 m pc lsc st0) st (x_Qm D dA ad (va_A (x_w dA ad h) H.size) Q' a) (va_A (x_w dA ad h) H.size))
    (kk : ∀ r h', Q' r h' → l_V p l e s m below meth c D dA ad b lsc (pc + 3) ((r.map (x_t ad)).toList ++ st) h') : W p l e room_1 s m #[Value.ref b] below meth c H locs 43 578 (lw_Z below #[Value.ref b] s) (F0 m pc lsc st0) := by
  intro T hT X
  obtain ⟨v, st₀, t, T', Lo, h0, X', hL, e1, e2, ⟨⟨r, h', hv, hq, hP'⟩, hz, hk⟩, stp⟩ := hr T hT X
  cases hv
  rw [h0] at hz hk
  have hAd : ∀ k, k < x_N → s.heap.size ≤ ad k := fun k hkN => Wd.1.2 k _ (x_w_get hkN)
  have hsub : ∀ q, va_A (x_w dA ad h) H.size q → s.heap.size ≤ q := by
    intro q hq
    rcases hq with ⟨k, e9, hq⟩ | hq
    · exact Wd.1.2 k _ hq
    · exact Nat.le_trans Wd.2.1.1 hq
  have hP2 : va_P D vwCl (x_w dA ad h') T'.heap := by rw [e1]; exact hP'
  have hS2 : va_S (fun q => s.heap.size ≤ q) s.heap T'.heap (locs ++ Lo) := ⟨Nat.le_trans Wd.2.1.1 (by rw [e1]; exact hz), fun q h1 h2 => by rw [e1, hk q (Nat.lt_of_lt_of_le h1 Wd.2.1.1) (fun z => h2 (hsub q z))]; exact Wd.2.1.2.1 q h1 h2, fun q hq => by
      rcases List.mem_append.mp hq with h | h
      · exact Wd.2.1.2.2 q h
      · exact hsub _ (hL q h)⟩
  obtain ⟨t2, a1, b1⟩ := kk r h' hq T'.heap (locs ++ Lo) ⟨x_w_D Wd.1 hAd, hS2, hP2, Wd.2.2.2⟩ T' rfl X'
  exact ⟨t2, stp t2 a1, b1⟩
theorem l_call {idx ci n : Nat} (k : Nat) {M' : x_M} {as st0 fs : List Value} {Q' : Option Value → x_H → Prop} (C0 : lw_At p s m meth c b L xs) (hK : x_K D dA s) (hL : x_CV RL idx M' ci n) (hd : decode code pc = .ok (.invokevirtual idx, 3)) (hC : x_Ct 20 M' (.ref k :: as) h Q') (hk : k < x_N) (hc : h k = .inr (ci, fs)) (hn : as.length = n) (hst : st0 = (as.map (x_t ad)).reverse ++ .ref (ad k) :: st) (hw : (st.map fun v => v.category).sum ≤ 8) (hl : lsc.size = 4)
    (kk : ∀ r h', Q' r h' → l_V p l e s m below meth c D dA ad b lsc (pc + 3) ((r.map (x_t ad)).toList ++ st) h') : l_V p l e s m below meth c D dA ad b lsc pc st0 h := by
  subst hst
  intro H locs Wd
  obtain ⟨hx, hb, hr, hml, hown, hts, hX, hbl, hlocks, hgv⟩ := C0
  obtain ⟨⟨hcode, hini, hnm, hml'⟩, hlk, hinst, hsel, q, hq1, hq2⟩ := hL
  have gb : ∀ w ∈ x_base, w ∈ lw_tbl ∧ ((w.onTables && w.keeps) = true ∨ ∃ ty, w = .arrayClass ty) := fun w hw => ⟨(List.mem_filter.mp hw).1, good_of_word (x_base_all _ hw)⟩
  have g1 : GoodIn lw_tbl (wsV RL idx M'.1.cls M'.1 (x_ws M')) := by
    intro w hw
    rcases List.mem_append.mp hw with hw | hw
    · simp only [List.mem_cons, List.not_mem_nil, or_false] at hw
      rcases hw with rfl | rfl | rfl | rfl <;> exact gb _ (by assumption)
    · rcases List.mem_cons.mp hw with rfl | hw
      · exact gb _ hcode
      · exact gb _ hw
  have he : (x_w dA ad h)[k]? = some (ad k, .inr (ci, fs.map (x_t ad))) := by rw [x_w_get hk, hc]; rfl
  refine l_back Wd (a := (Value.ref (ad k) :: as.map (x_t ad)).toArray) (va_runV (As := as.map (x_t ad)) (rest := st) ⟨hx, hb, hml, hown, hts⟩ (hC l D dA ad H.size) (cwV n hts g1 rfl rfl rfl ⟨rfl, hnm⟩ ⟨?_, ?_⟩) ⟨x_blind _ _ _ _ _ _, ?_, fun U hU hW => ⟨rfl, by rw [hU], by rw [hU]; exact Wd.2.2.1, x_K_warm hW hK, Wd.1.weaken (fun _ _ _ _ => trivial)⟩⟩ rfl (by simpa using hn) hl rfl (lv_room hw) hd ⟨?_, ?_⟩) kk
  · show 20 + 1 ≤ 2048; decide
  · show 8 + (M'.2.2.1 + 11) + 40 * 20 ≤ 84000; omega
  · rw [← hq2]; exact va_recv hK.1 Wd.2.2.1 hq1 he
  · show 43 + 0 ≤ 600000; decide
  · show 578 + 0 ≤ 7302250; decide
end LV
section LC
variable {p : Program} {l : Launch} {e : Env} {s : State} {m : MethodId} {below : List Frame} {meth : Method} {c : Code} {D : va_G} {dA : Nat → ClassId} {ad : Nat → Nat} {b L i : Nat} {xs : Nat → Int32} {lsc : Array Slot} {h : x_H}
theorem l_c0 (C0 : lw_At p s m meth c b L xs) (hL : L ≤ 2048) (hK : x_K D dA s) (Lc : l_L ad b lsc i) (hi : i + 4 ≤ L) (hR : RX h) (k : ∀ h', RX h' → l_V p l e s m below meth c D dA ad b lsc 826 [] h') : l_V p l e s m below meth c D dA ad b lsc 152 [] h := by
  obtain ⟨_, _, _, _, _, _, _, rr⟩ := hR
  have hx0 := rr.1.1
  obtain ⟨a, c1⟩ := pp_set rr (xs (i + 1)) (xs (i + 2))
  refine l_x C0 Lc dL_law_152 ?_
  refine l_arg 1 C0 hL Lc (by omega) dL_law_153 dL_law_154 dL_law_155 (by decide) dL_law_156 dL_law_157 ?_
  refine l_arg 2 C0 hL Lc (by omega) dL_law_158 dL_law_159 dL_law_160 (by decide) dL_law_161 dL_law_162 ?_
  refine l_call 0 C0 hK clL_13 dL_law_163 c1 (by decide) hx0 rfl rfl (Nat.le_of_ble_eq_true rfl) Lc.1 (fun r h' hq => ?_)
  obtain ⟨rfl, ⟨fs, hx5⟩, c2⟩ := hq
  refine l_m C0 Lc dL_law_166 ?_
  refine l_arg 1 C0 hL Lc (by omega) dL_law_167 dL_law_168 dL_law_169 (by decide) dL_law_170 dL_law_171 ?_
  refine l_arg 2 C0 hL Lc (by omega) dL_law_172 dL_law_173 dL_law_174 (by decide) dL_law_175 dL_law_176 ?_
  refine l_call 30 C0 hK clL_17 dL_law_177 c2 (by decide) hx5 rfl rfl (Nat.le_of_ble_eq_true rfl) Lc.1 (fun r h'' hq => ?_)
  obtain ⟨rfl, hR2⟩ := hq
  exact l_eq C0 dL_law_180 (by decide) (k _ hR2)
theorem l_c1 (C0 : lw_At p s m meth c b L xs) (hL : L ≤ 2048) (hK : x_K D dA s) (Lc : l_L ad b lsc i) (hi : i + 4 ≤ L) (hR : RX h) (k : ∀ h', RX h' → l_V p l e s m below meth c D dA ad b lsc 826 [] h') : l_V p l e s m below meth c D dA ad b lsc 185 [] h := by
  obtain ⟨_, _, _, _, _, _, _, rr⟩ := hR
  have hx0 := rr.1.1
  obtain ⟨a, c1⟩ := pp_say rr (xs (i + 1))
  refine l_x C0 Lc dL_law_185 ?_
  refine l_arg 1 C0 hL Lc (by omega) dL_law_186 dL_law_187 dL_law_188 (by decide) dL_law_189 dL_law_190 ?_
  refine l_call 0 C0 hK clL_18 dL_law_191 c1 (by decide) hx0 rfl rfl (Nat.le_of_ble_eq_true rfl) Lc.1 (fun r h' hq => ?_)
  obtain ⟨rfl, ⟨fs, hx5⟩, c2⟩ := hq
  refine l_m C0 Lc dL_law_194 ?_
  refine l_arg 1 C0 hL Lc (by omega) dL_law_195 dL_law_196 dL_law_197 (by decide) dL_law_198 dL_law_199 ?_
  refine l_call 30 C0 hK clL_22 dL_law_200 c2 (by decide) hx5 rfl rfl (Nat.le_of_ble_eq_true rfl) Lc.1 (fun r h'' hq => ?_)
  obtain ⟨rfl, hR2⟩ := hq
  exact l_eq C0 dL_law_203 (by decide) (k _ hR2)
theorem l_c2 (C0 : lw_At p s m meth c b L xs) (hL : L ≤ 2048) (hK : x_K D dA s) (Lc : l_L ad b lsc i) (hi : i + 4 ≤ L) (hR : RX h) (k : ∀ h', RX h' → l_V p l e s m below meth c D dA ad b lsc 826 [] h') : l_V p l e s m below meth c D dA ad b lsc 208 [] h := by
  obtain ⟨_, _, _, _, _, _, _, rr⟩ := hR
  have hx0 := rr.1.1
  obtain ⟨a, c1⟩ := pp_wipe rr
  refine l_x C0 Lc dL_law_208 ?_
  refine l_call 0 C0 hK clL_23 dL_law_209 c1 (by decide) hx0 rfl rfl (Nat.le_of_ble_eq_true rfl) Lc.1 (fun r h' hq => ?_)
  obtain ⟨rfl, ⟨fs, hx5⟩, c2⟩ := hq
  refine l_m C0 Lc dL_law_212 ?_
  refine l_call 30 C0 hK clL_27 dL_law_213 c2 (by decide) hx5 rfl rfl (Nat.le_of_ble_eq_true rfl) Lc.1 (fun r h'' hq => ?_)
  obtain ⟨rfl, hR2⟩ := hq
  exact l_eq C0 dL_law_216 (by decide) (k _ hR2)
theorem l_c3 (C0 : lw_At p s m meth c b L xs) (hL : L ≤ 2048) (hK : x_K D dA s) (Lc : l_L ad b lsc i) (hi : i + 4 ≤ L) (hR : RX h) (k : ∀ h', RX h' → l_V p l e s m below meth c D dA ad b lsc 826 [] h') : l_V p l e s m below meth c D dA ad b lsc 221 [] h := by
  obtain ⟨_, _, _, _, _, _, _, rr⟩ := hR
  have hx0 := rr.1.1
  obtain ⟨a, c1⟩ := pp_fault rr
  refine l_x C0 Lc dL_law_221 ?_
  refine l_call 0 C0 hK clL_28 dL_law_222 c1 (by decide) hx0 rfl rfl (Nat.le_of_ble_eq_true rfl) Lc.1 (fun r h' hq => ?_)
  obtain ⟨rfl, ⟨fs, hx5⟩, c2⟩ := hq
  refine l_m C0 Lc dL_law_225 ?_
  refine l_call 30 C0 hK clL_31 dL_law_226 c2 (by decide) hx5 rfl rfl (Nat.le_of_ble_eq_true rfl) Lc.1 (fun r h'' hq => ?_)
  obtain ⟨rfl, hR2⟩ := hq
  exact l_eq C0 dL_law_229 (by decide) (k _ hR2)
theorem l_c4 (C0 : lw_At p s m meth c b L xs) (hL : L ≤ 2048) (hK : x_K D dA s) (Lc : l_L ad b lsc i) (hi : i + 4 ≤ L) (hR : RX h) (k : ∀ h', RX h' → l_V p l e s m below meth c D dA ad b lsc 826 [] h') : l_V p l e s m below meth c D dA ad b lsc 234 [] h := by
  obtain ⟨_, _, _, _, _, _, _, rr⟩ := hR
  have hx0 := rr.1.1
  obtain ⟨a, c1⟩ := pp_stands rr (xs (i + 1)) (xs (i + 2))
  refine l_x C0 Lc dL_law_234 ?_
  refine l_arg 1 C0 hL Lc (by omega) dL_law_235 dL_law_236 dL_law_237 (by decide) dL_law_238 dL_law_239 ?_
  refine l_arg 2 C0 hL Lc (by omega) dL_law_240 dL_law_241 dL_law_242 (by decide) dL_law_243 dL_law_244 ?_
  refine l_call 0 C0 hK clL_32 dL_law_245 c1 (by decide) hx0 rfl rfl (Nat.le_of_ble_eq_true rfl) Lc.1 (fun r h' hq => ?_)
  obtain ⟨rfl, ⟨fs, hx5⟩, c2⟩ := hq
  refine l_m C0 Lc dL_law_248 ?_
  refine l_arg 1 C0 hL Lc (by omega) dL_law_249 dL_law_250 dL_law_251 (by decide) dL_law_252 dL_law_253 ?_
  refine l_arg 2 C0 hL Lc (by omega) dL_law_254 dL_law_255 dL_law_256 (by decide) dL_law_257 dL_law_258 ?_
  refine l_call 30 C0 hK clL_35 dL_law_259 c2 (by decide) hx5 rfl rfl (Nat.le_of_ble_eq_true rfl) Lc.1 (fun r h'' hq => ?_)
  obtain ⟨rfl, hR2⟩ := hq
  exact l_eq C0 dL_law_262 (by decide) (k _ hR2)
theorem l_c5 (C0 : lw_At p s m meth c b L xs) (hL : L ≤ 2048) (hK : x_K D dA s) (Lc : l_L ad b lsc i) (hi : i + 4 ≤ L) (hR : RX h) (k : ∀ h', RX h' → l_V p l e s m below meth c D dA ad b lsc 826 [] h') : l_V p l e s m below meth c D dA ad b lsc 267 [] h := by
  obtain ⟨_, _, _, _, _, _, _, rr⟩ := hR
  have hx0 := rr.1.1
  obtain ⟨a, c1⟩ := pp_read rr (xs (i + 1))
  refine l_x C0 Lc dL_law_267 ?_
  refine l_arg 1 C0 hL Lc (by omega) dL_law_268 dL_law_269 dL_law_270 (by decide) dL_law_271 dL_law_272 ?_
  refine l_call 0 C0 hK clL_36 dL_law_273 c1 (by decide) hx0 rfl rfl (Nat.le_of_ble_eq_true rfl) Lc.1 (fun r h' hq => ?_)
  obtain ⟨rfl, ⟨fs, hx5⟩, c2⟩ := hq
  refine l_m C0 Lc dL_law_276 ?_
  refine l_arg 1 C0 hL Lc (by omega) dL_law_277 dL_law_278 dL_law_279 (by decide) dL_law_280 dL_law_281 ?_
  refine l_call 30 C0 hK clL_39 dL_law_282 c2 (by decide) hx5 rfl rfl (Nat.le_of_ble_eq_true rfl) Lc.1 (fun r h'' hq => ?_)
  obtain ⟨rfl, hR2⟩ := hq
  exact l_eq C0 dL_law_285 (by decide) (k _ hR2)
theorem l_c6 (C0 : lw_At p s m meth c b L xs) (hL : L ≤ 2048) (hK : x_K D dA s) (Lc : l_L ad b lsc i) (hi : i + 4 ≤ L) (hR : RX h) (k : ∀ h', RX h' → l_V p l e s m below meth c D dA ad b lsc 826 [] h') : l_V p l e s m below meth c D dA ad b lsc 290 [] h := by
  obtain ⟨_, _, _, _, _, _, _, rr⟩ := hR
  have hx0 := rr.1.1
  obtain ⟨a, c1⟩ := pp_seen rr (xs (i + 1))
  refine l_x C0 Lc dL_law_290 ?_
  refine l_arg 1 C0 hL Lc (by omega) dL_law_291 dL_law_292 dL_law_293 (by decide) dL_law_294 dL_law_295 ?_
  refine l_call 0 C0 hK clL_40 dL_law_296 c1 (by decide) hx0 rfl rfl (Nat.le_of_ble_eq_true rfl) Lc.1 (fun r h' hq => ?_)
  obtain ⟨rfl, ⟨fs, hx5⟩, c2⟩ := hq
  refine l_m C0 Lc dL_law_299 ?_
  refine l_arg 1 C0 hL Lc (by omega) dL_law_300 dL_law_301 dL_law_302 (by decide) dL_law_303 dL_law_304 ?_
  refine l_call 30 C0 hK clL_43 dL_law_305 c2 (by decide) hx5 rfl rfl (Nat.le_of_ble_eq_true rfl) Lc.1 (fun r h'' hq => ?_)
  obtain ⟨rfl, hR2⟩ := hq
  exact l_eq C0 dL_law_308 (by decide) (k _ hR2)
theorem l_c7 (C0 : lw_At p s m meth c b L xs) (hL : L ≤ 2048) (hK : x_K D dA s) (Lc : l_L ad b lsc i) (hi : i + 4 ≤ L) (hR : RX h) (k : ∀ h', RX h' → l_V p l e s m below meth c D dA ad b lsc 826 [] h') : l_V p l e s m below meth c D dA ad b lsc 313 [] h := by
  obtain ⟨_, _, _, _, _, _, _, rr⟩ := hR
  have hx0 := rr.1.1
  obtain ⟨a, c1⟩ := pp_missed rr (xs (i + 1))
  refine l_x C0 Lc dL_law_313 ?_
  refine l_arg 1 C0 hL Lc (by omega) dL_law_314 dL_law_315 dL_law_316 (by decide) dL_law_317 dL_law_318 ?_
  refine l_call 0 C0 hK clL_44 dL_law_319 c1 (by decide) hx0 rfl rfl (Nat.le_of_ble_eq_true rfl) Lc.1 (fun r h' hq => ?_)
  obtain ⟨rfl, ⟨fs, hx5⟩, c2⟩ := hq
  refine l_m C0 Lc dL_law_322 ?_
  refine l_arg 1 C0 hL Lc (by omega) dL_law_323 dL_law_324 dL_law_325 (by decide) dL_law_326 dL_law_327 ?_
  refine l_call 30 C0 hK clL_47 dL_law_328 c2 (by decide) hx5 rfl rfl (Nat.le_of_ble_eq_true rfl) Lc.1 (fun r h'' hq => ?_)
  obtain ⟨rfl, hR2⟩ := hq
  exact l_eq C0 dL_law_331 (by decide) (k _ hR2)
theorem l_c8 (C0 : lw_At p s m meth c b L xs) (hL : L ≤ 2048) (hK : x_K D dA s) (Lc : l_L ad b lsc i) (hi : i + 4 ≤ L) (hR : RX h) (k : ∀ h', RX h' → l_V p l e s m below meth c D dA ad b lsc 826 [] h') : l_V p l e s m below meth c D dA ad b lsc 336 [] h := by
  obtain ⟨_, _, _, _, _, _, _, rr⟩ := hR
  have hx0 := rr.1.1
  obtain ⟨a, c1⟩ := pp_hired rr (xs (i + 1)) (xs (i + 2)) (xs (i + 3))
  refine l_x C0 Lc dL_law_336 ?_
  refine l_arg 1 C0 hL Lc (by omega) dL_law_337 dL_law_338 dL_law_339 (by decide) dL_law_340 dL_law_341 ?_
  refine l_arg 2 C0 hL Lc (by omega) dL_law_342 dL_law_343 dL_law_344 (by decide) dL_law_345 dL_law_346 ?_
  refine l_arg 3 C0 hL Lc (by omega) dL_law_347 dL_law_348 dL_law_349 (by decide) dL_law_350 dL_law_351 ?_
  refine l_call 0 C0 hK clL_48 dL_law_352 c1 (by decide) hx0 rfl rfl (Nat.le_of_ble_eq_true rfl) Lc.1 (fun r h' hq => ?_)
  obtain ⟨rfl, ⟨fs, hx5⟩, c2⟩ := hq
  refine l_m C0 Lc dL_law_355 ?_
  refine l_arg 1 C0 hL Lc (by omega) dL_law_356 dL_law_357 dL_law_358 (by decide) dL_law_359 dL_law_360 ?_
  refine l_arg 2 C0 hL Lc (by omega) dL_law_361 dL_law_362 dL_law_363 (by decide) dL_law_364 dL_law_365 ?_
  refine l_arg 3 C0 hL Lc (by omega) dL_law_366 dL_law_367 dL_law_368 (by decide) dL_law_369 dL_law_370 ?_
  refine l_call 30 C0 hK clL_52 dL_law_371 c2 (by decide) hx5 rfl rfl (Nat.le_of_ble_eq_true rfl) Lc.1 (fun r h'' hq => ?_)
  obtain ⟨rfl, hR2⟩ := hq
  exact l_eq C0 dL_law_374 (by decide) (k _ hR2)
theorem l_c9 (C0 : lw_At p s m meth c b L xs) (hL : L ≤ 2048) (hK : x_K D dA s) (Lc : l_L ad b lsc i) (hi : i + 4 ≤ L) (hR : RX h) (k : ∀ h', RX h' → l_V p l e s m below meth c D dA ad b lsc 826 [] h') : l_V p l e s m below meth c D dA ad b lsc 379 [] h := by
  obtain ⟨_, _, _, _, _, _, _, rr⟩ := hR
  have hx0 := rr.1.1
  obtain ⟨a, c1⟩ := pp_cross rr (xs (i + 1)) (xs (i + 2))
  refine l_x C0 Lc dL_law_379 ?_
  refine l_arg 1 C0 hL Lc (by omega) dL_law_380 dL_law_381 dL_law_382 (by decide) dL_law_383 dL_law_384 ?_
  refine l_arg 2 C0 hL Lc (by omega) dL_law_385 dL_law_386 dL_law_387 (by decide) dL_law_388 dL_law_389 ?_
  refine l_call 0 C0 hK clL_53 dL_law_390 c1 (by decide) hx0 rfl rfl (Nat.le_of_ble_eq_true rfl) Lc.1 (fun r h' hq => ?_)
  obtain ⟨rfl, ⟨fs, hx5⟩, c2⟩ := hq
  refine l_m C0 Lc dL_law_393 ?_
  refine l_arg 1 C0 hL Lc (by omega) dL_law_394 dL_law_395 dL_law_396 (by decide) dL_law_397 dL_law_398 ?_
  refine l_arg 2 C0 hL Lc (by omega) dL_law_399 dL_law_400 dL_law_401 (by decide) dL_law_402 dL_law_403 ?_
  refine l_call 30 C0 hK clL_56 dL_law_404 c2 (by decide) hx5 rfl rfl (Nat.le_of_ble_eq_true rfl) Lc.1 (fun r h'' hq => ?_)
  obtain ⟨rfl, hR2⟩ := hq
  exact l_eq C0 dL_law_407 (by decide) (k _ hR2)
theorem l_c10 (C0 : lw_At p s m meth c b L xs) (hL : L ≤ 2048) (hK : x_K D dA s) (Lc : l_L ad b lsc i) (hi : i + 4 ≤ L) (hR : RX h) (k : ∀ h', RX h' → l_V p l e s m below meth c D dA ad b lsc 826 [] h') : l_V p l e s m below meth c D dA ad b lsc 412 [] h := by
  obtain ⟨_, _, _, _, _, _, _, rr⟩ := hR
  have hx0 := rr.1.1
  obtain ⟨a, c1⟩ := pp_unseen rr (xs (i + 1))
  refine l_x C0 Lc dL_law_412 ?_
  refine l_arg 1 C0 hL Lc (by omega) dL_law_413 dL_law_414 dL_law_415 (by decide) dL_law_416 dL_law_417 ?_
  refine l_call 0 C0 hK clL_57 dL_law_418 c1 (by decide) hx0 rfl rfl (Nat.le_of_ble_eq_true rfl) Lc.1 (fun r h' hq => ?_)
  obtain ⟨rfl, ⟨fs, hx5⟩, c2⟩ := hq
  refine l_m C0 Lc dL_law_421 ?_
  refine l_arg 1 C0 hL Lc (by omega) dL_law_422 dL_law_423 dL_law_424 (by decide) dL_law_425 dL_law_426 ?_
  refine l_call 30 C0 hK clL_60 dL_law_427 c2 (by decide) hx5 rfl rfl (Nat.le_of_ble_eq_true rfl) Lc.1 (fun r h'' hq => ?_)
  obtain ⟨rfl, hR2⟩ := hq
  exact l_eq C0 dL_law_430 (by decide) (k _ hR2)
theorem l_c11 (C0 : lw_At p s m meth c b L xs) (hL : L ≤ 2048) (hK : x_K D dA s) (Lc : l_L ad b lsc i) (hi : i + 4 ≤ L) (hR : RX h) (k : ∀ h', RX h' → l_V p l e s m below meth c D dA ad b lsc 826 [] h') : l_V p l e s m below meth c D dA ad b lsc 435 [] h := by
  obtain ⟨_, _, _, _, _, _, _, rr⟩ := hR
  have hx0 := rr.1.1
  obtain ⟨a, c1⟩ := pp_look rr (xs (i + 1))
  refine l_x C0 Lc dL_law_435 ?_
  refine l_arg 1 C0 hL Lc (by omega) dL_law_436 dL_law_437 dL_law_438 (by decide) dL_law_439 dL_law_440 ?_
  refine l_call 0 C0 hK clL_61 dL_law_441 c1 (by decide) hx0 rfl rfl (Nat.le_of_ble_eq_true rfl) Lc.1 (fun r h' hq => ?_)
  obtain ⟨rfl, ⟨fs, hx5⟩, c2⟩ := hq
  refine l_m C0 Lc dL_law_444 ?_
  refine l_arg 1 C0 hL Lc (by omega) dL_law_445 dL_law_446 dL_law_447 (by decide) dL_law_448 dL_law_449 ?_
  refine l_call 30 C0 hK clL_64 dL_law_450 c2 (by decide) hx5 rfl rfl (Nat.le_of_ble_eq_true rfl) Lc.1 (fun r h'' hq => ?_)
  obtain ⟨rfl, hR2⟩ := hq
  exact l_eq C0 dL_law_453 (by decide) (k _ hR2)
theorem l_c12 (C0 : lw_At p s m meth c b L xs) (hL : L ≤ 2048) (hK : x_K D dA s) (Lc : l_L ad b lsc i) (hi : i + 4 ≤ L) (hR : RX h) (k : ∀ h', RX h' → l_V p l e s m below meth c D dA ad b lsc 826 [] h') : l_V p l e s m below meth c D dA ad b lsc 458 [] h := by
  obtain ⟨_, _, _, _, _, _, _, rr⟩ := hR
  have hx0 := rr.1.1
  obtain ⟨a, c1⟩ := pp_looks rr (xs (i + 1))
  refine l_x C0 Lc dL_law_458 ?_
  refine l_arg 1 C0 hL Lc (by omega) dL_law_459 dL_law_460 dL_law_461 (by decide) dL_law_462 dL_law_463 ?_
  refine l_call 0 C0 hK clL_65 dL_law_464 c1 (by decide) hx0 rfl rfl (Nat.le_of_ble_eq_true rfl) Lc.1 (fun r h' hq => ?_)
  obtain ⟨rfl, ⟨fs, hx5⟩, c2⟩ := hq
  refine l_m C0 Lc dL_law_467 ?_
  refine l_arg 1 C0 hL Lc (by omega) dL_law_468 dL_law_469 dL_law_470 (by decide) dL_law_471 dL_law_472 ?_
  refine l_call 30 C0 hK clL_68 dL_law_473 c2 (by decide) hx5 rfl rfl (Nat.le_of_ble_eq_true rfl) Lc.1 (fun r h'' hq => ?_)
  obtain ⟨rfl, hR2⟩ := hq
  exact l_eq C0 dL_law_476 (by decide) (k _ hR2)
theorem l_c13 (C0 : lw_At p s m meth c b L xs) (hL : L ≤ 2048) (hK : x_K D dA s) (Lc : l_L ad b lsc i) (hi : i + 4 ≤ L) (hR : RX h) (k : ∀ h', RX h' → l_V p l e s m below meth c D dA ad b lsc 826 [] h') : l_V p l e s m below meth c D dA ad b lsc 481 [] h := by
  obtain ⟨_, _, _, _, _, _, _, rr⟩ := hR
  have hx0 := rr.1.1
  obtain ⟨a, c1⟩ := pp_best rr (xs (i + 1))
  refine l_x C0 Lc dL_law_481 ?_
  refine l_arg 1 C0 hL Lc (by omega) dL_law_482 dL_law_483 dL_law_484 (by decide) dL_law_485 dL_law_486 ?_
  refine l_call 0 C0 hK clL_69 dL_law_487 c1 (by decide) hx0 rfl rfl (Nat.le_of_ble_eq_true rfl) Lc.1 (fun r h' hq => ?_)
  obtain ⟨rfl, ⟨fs, hx5⟩, c2⟩ := hq
  refine l_m C0 Lc dL_law_490 ?_
  refine l_arg 1 C0 hL Lc (by omega) dL_law_491 dL_law_492 dL_law_493 (by decide) dL_law_494 dL_law_495 ?_
  refine l_call 30 C0 hK clL_72 dL_law_496 c2 (by decide) hx5 rfl rfl (Nat.le_of_ble_eq_true rfl) Lc.1 (fun r h'' hq => ?_)
  obtain ⟨rfl, hR2⟩ := hq
  exact l_eq C0 dL_law_499 (by decide) (k _ hR2)
theorem l_c14 (C0 : lw_At p s m meth c b L xs) (hL : L ≤ 2048) (hK : x_K D dA s) (Lc : l_L ad b lsc i) (hi : i + 4 ≤ L) (hR : RX h) (k : ∀ h', RX h' → l_V p l e s m below meth c D dA ad b lsc 826 [] h') : l_V p l e s m below meth c D dA ad b lsc 504 [] h := by
  obtain ⟨_, _, _, _, _, _, _, rr⟩ := hR
  have hx0 := rr.1.1
  obtain ⟨a, c1⟩ := pp_stood rr (xs (i + 1))
  refine l_x C0 Lc dL_law_504 ?_
  refine l_arg 1 C0 hL Lc (by omega) dL_law_505 dL_law_506 dL_law_507 (by decide) dL_law_508 dL_law_509 ?_
  refine l_call 0 C0 hK clL_73 dL_law_510 c1 (by decide) hx0 rfl rfl (Nat.le_of_ble_eq_true rfl) Lc.1 (fun r h' hq => ?_)
  obtain ⟨rfl, ⟨fs, hx5⟩, c2⟩ := hq
  refine l_m C0 Lc dL_law_513 ?_
  refine l_arg 1 C0 hL Lc (by omega) dL_law_514 dL_law_515 dL_law_516 (by decide) dL_law_517 dL_law_518 ?_
  refine l_call 30 C0 hK clL_76 dL_law_519 c2 (by decide) hx5 rfl rfl (Nat.le_of_ble_eq_true rfl) Lc.1 (fun r h'' hq => ?_)
  obtain ⟨rfl, hR2⟩ := hq
  exact l_eq C0 dL_law_522 (by decide) (k _ hR2)
theorem l_c15 (C0 : lw_At p s m meth c b L xs) (hL : L ≤ 2048) (hK : x_K D dA s) (Lc : l_L ad b lsc i) (hi : i + 4 ≤ L) (hR : RX h) (k : ∀ h', RX h' → l_V p l e s m below meth c D dA ad b lsc 826 [] h') : l_V p l e s m below meth c D dA ad b lsc 527 [] h := by
  obtain ⟨_, _, _, _, _, _, _, rr⟩ := hR
  have hx0 := rr.1.1
  obtain ⟨a, c1⟩ := pp_sight rr (xs (i + 1)) (xs (i + 2)) (if xs (i + 3) = 0 then 0 else 1) (by split <;> omega)
  refine l_x C0 Lc dL_law_527 ?_
  refine l_arg 1 C0 hL Lc (by omega) dL_law_528 dL_law_529 dL_law_530 (by decide) dL_law_531 dL_law_532 ?_
  refine l_arg 2 C0 hL Lc (by omega) dL_law_533 dL_law_534 dL_law_535 (by decide) dL_law_536 dL_law_537 ?_
  refine l_arg 3 C0 hL Lc (by omega) dL_law_538 dL_law_539 dL_law_540 (by decide) dL_law_541 dL_law_542 ?_
  refine l_bool 550 551 C0 dL_law_543 (by decide) dL_law_546 dL_law_547 (by decide) dL_law_550 rfl ?_
  refine l_call 0 C0 hK clL_77 dL_law_551 c1 (by decide) hx0 rfl rfl (Nat.le_of_ble_eq_true rfl) Lc.1 (fun r h' hq => ?_)
  obtain ⟨rfl, ⟨fs, hx5⟩, c2⟩ := hq
  refine l_m C0 Lc dL_law_554 ?_
  refine l_arg 1 C0 hL Lc (by omega) dL_law_555 dL_law_556 dL_law_557 (by decide) dL_law_558 dL_law_559 ?_
  refine l_arg 2 C0 hL Lc (by omega) dL_law_560 dL_law_561 dL_law_562 (by decide) dL_law_563 dL_law_564 ?_
  refine l_arg 3 C0 hL Lc (by omega) dL_law_565 dL_law_566 dL_law_567 (by decide) dL_law_568 dL_law_569 ?_
  refine l_bool 577 578 C0 dL_law_570 (by decide) dL_law_573 dL_law_574 (by decide) dL_law_577 rfl ?_
  refine l_call 30 C0 hK clL_81 dL_law_578 c2 (by decide) hx5 rfl rfl (Nat.le_of_ble_eq_true rfl) Lc.1 (fun r h'' hq => ?_)
  obtain ⟨rfl, hR2⟩ := hq
  exact l_eq C0 dL_law_581 (by decide) (k _ hR2)
theorem l_c16 (C0 : lw_At p s m meth c b L xs) (hL : L ≤ 2048) (hK : x_K D dA s) (Lc : l_L ad b lsc i) (hi : i + 4 ≤ L) (hR : RX h) (k : ∀ h', RX h' → l_V p l e s m below meth c D dA ad b lsc 826 [] h') : l_V p l e s m below meth c D dA ad b lsc 586 [] h := by
  obtain ⟨_, _, _, _, _, _, _, rr⟩ := hR
  have hx0 := rr.1.1
  obtain ⟨a, c1⟩ := pp_forget rr
  refine l_x C0 Lc dL_law_586 ?_
  refine l_call 0 C0 hK clL_82 dL_law_587 c1 (by decide) hx0 rfl rfl (Nat.le_of_ble_eq_true rfl) Lc.1 (fun r h' hq => ?_)
  obtain ⟨rfl, ⟨fs, hx5⟩, c2⟩ := hq
  refine l_m C0 Lc dL_law_590 ?_
  refine l_call 30 C0 hK clL_85 dL_law_591 c2 (by decide) hx5 rfl rfl (Nat.le_of_ble_eq_true rfl) Lc.1 (fun r h'' hq => ?_)
  obtain ⟨rfl, hR2⟩ := hq
  exact l_eq C0 dL_law_594 (by decide) (k _ hR2)
theorem l_c17 (C0 : lw_At p s m meth c b L xs) (hL : L ≤ 2048) (hK : x_K D dA s) (Lc : l_L ad b lsc i) (hi : i + 4 ≤ L) (hR : RX h) (k : ∀ h', RX h' → l_V p l e s m below meth c D dA ad b lsc 826 [] h') : l_V p l e s m below meth c D dA ad b lsc 599 [] h := by
  obtain ⟨_, _, _, _, _, _, _, rr⟩ := hR
  have hx0 := rr.1.1
  obtain ⟨a, c1⟩ := pp_fits rr (xs (i + 1))
  refine l_x C0 Lc dL_law_599 ?_
  refine l_arg 1 C0 hL Lc (by omega) dL_law_600 dL_law_601 dL_law_602 (by decide) dL_law_603 dL_law_604 ?_
  refine l_call 0 C0 hK clL_86 dL_law_605 c1 (by decide) hx0 rfl rfl (Nat.le_of_ble_eq_true rfl) Lc.1 (fun r h' hq => ?_)
  obtain ⟨rfl, ⟨fs, hx5⟩, c2⟩ := hq
  refine l_m C0 Lc dL_law_608 ?_
  refine l_arg 1 C0 hL Lc (by omega) dL_law_609 dL_law_610 dL_law_611 (by decide) dL_law_612 dL_law_613 ?_
  refine l_call 30 C0 hK clL_89 dL_law_614 c2 (by decide) hx5 rfl rfl (Nat.le_of_ble_eq_true rfl) Lc.1 (fun r h'' hq => ?_)
  obtain ⟨rfl, hR2⟩ := hq
  exact l_eq C0 dL_law_617 (by decide) (k _ hR2)
theorem l_c18 (C0 : lw_At p s m meth c b L xs) (hL : L ≤ 2048) (hK : x_K D dA s) (Lc : l_L ad b lsc i) (hi : i + 4 ≤ L) (hR : RX h) (k : ∀ h', RX h' → l_V p l e s m below meth c D dA ad b lsc 826 [] h') : l_V p l e s m below meth c D dA ad b lsc 622 [] h := by
  obtain ⟨_, _, _, _, _, _, _, rr⟩ := hR
  have hx0 := rr.1.1
  obtain ⟨a, c1⟩ := pp_could rr (xs (i + 1))
  refine l_x C0 Lc dL_law_622 ?_
  refine l_arg 1 C0 hL Lc (by omega) dL_law_623 dL_law_624 dL_law_625 (by decide) dL_law_626 dL_law_627 ?_
  refine l_call 0 C0 hK clL_90 dL_law_628 c1 (by decide) hx0 rfl rfl (Nat.le_of_ble_eq_true rfl) Lc.1 (fun r h' hq => ?_)
  obtain ⟨rfl, ⟨fs, hx5⟩, c2⟩ := hq
  refine l_m C0 Lc dL_law_631 ?_
  refine l_arg 1 C0 hL Lc (by omega) dL_law_632 dL_law_633 dL_law_634 (by decide) dL_law_635 dL_law_636 ?_
  refine l_call 30 C0 hK clL_93 dL_law_637 c2 (by decide) hx5 rfl rfl (Nat.le_of_ble_eq_true rfl) Lc.1 (fun r h'' hq => ?_)
  obtain ⟨rfl, hR2⟩ := hq
  exact l_eq C0 dL_law_640 (by decide) (k _ hR2)
theorem l_c19 (C0 : lw_At p s m meth c b L xs) (hL : L ≤ 2048) (hK : x_K D dA s) (Lc : l_L ad b lsc i) (hi : i + 4 ≤ L) (hR : RX h) (k : ∀ h', RX h' → l_V p l e s m below meth c D dA ad b lsc 826 [] h') : l_V p l e s m below meth c D dA ad b lsc 645 [] h := by
  obtain ⟨_, _, _, _, _, _, _, rr⟩ := hR
  have hx0 := rr.1.1
  obtain ⟨a, c1⟩ := pp_alibi rr (xs (i + 1))
  refine l_x C0 Lc dL_law_645 ?_
  refine l_arg 1 C0 hL Lc (by omega) dL_law_646 dL_law_647 dL_law_648 (by decide) dL_law_649 dL_law_650 ?_
  refine l_call 0 C0 hK clL_94 dL_law_651 c1 (by decide) hx0 rfl rfl (Nat.le_of_ble_eq_true rfl) Lc.1 (fun r h' hq => ?_)
  obtain ⟨rfl, ⟨fs, hx5⟩, c2⟩ := hq
  refine l_m C0 Lc dL_law_654 ?_
  refine l_arg 1 C0 hL Lc (by omega) dL_law_655 dL_law_656 dL_law_657 (by decide) dL_law_658 dL_law_659 ?_
  refine l_call 30 C0 hK clL_97 dL_law_660 c2 (by decide) hx5 rfl rfl (Nat.le_of_ble_eq_true rfl) Lc.1 (fun r h'' hq => ?_)
  obtain ⟨rfl, hR2⟩ := hq
  exact l_eq C0 dL_law_663 (by decide) (k _ hR2)
theorem l_c20 (C0 : lw_At p s m meth c b L xs) (hL : L ≤ 2048) (hK : x_K D dA s) (Lc : l_L ad b lsc i) (hi : i + 4 ≤ L) (hR : RX h) (k : ∀ h', RX h' → l_V p l e s m below meth c D dA ad b lsc 826 [] h') : l_V p l e s m below meth c D dA ad b lsc 668 [] h := by
  obtain ⟨_, _, _, _, _, _, _, rr⟩ := hR
  have hx0 := rr.1.1
  obtain ⟨a, c1⟩ := pp_gone rr (xs (i + 1))
  refine l_x C0 Lc dL_law_668 ?_
  refine l_arg 1 C0 hL Lc (by omega) dL_law_669 dL_law_670 dL_law_671 (by decide) dL_law_672 dL_law_673 ?_
  refine l_call 0 C0 hK clL_98 dL_law_674 c1 (by decide) hx0 rfl rfl (Nat.le_of_ble_eq_true rfl) Lc.1 (fun r h' hq => ?_)
  obtain ⟨rfl, ⟨fs, hx5⟩, c2⟩ := hq
  refine l_m C0 Lc dL_law_677 ?_
  refine l_arg 1 C0 hL Lc (by omega) dL_law_678 dL_law_679 dL_law_680 (by decide) dL_law_681 dL_law_682 ?_
  refine l_call 30 C0 hK clL_101 dL_law_683 c2 (by decide) hx5 rfl rfl (Nat.le_of_ble_eq_true rfl) Lc.1 (fun r h'' hq => ?_)
  obtain ⟨rfl, hR2⟩ := hq
  exact l_eq C0 dL_law_686 (by decide) (k _ hR2)
theorem l_c21 (C0 : lw_At p s m meth c b L xs) (hL : L ≤ 2048) (hK : x_K D dA s) (Lc : l_L ad b lsc i) (hi : i + 4 ≤ L) (hR : RX h) (k : ∀ h', RX h' → l_V p l e s m below meth c D dA ad b lsc 826 [] h') : l_V p l e s m below meth c D dA ad b lsc 691 [] h := by
  obtain ⟨_, _, _, _, _, _, _, rr⟩ := hR
  have hx0 := rr.1.1
  obtain ⟨a, c1⟩ := pp_out rr (xs (i + 1))
  refine l_x C0 Lc dL_law_691 ?_
  refine l_arg 1 C0 hL Lc (by omega) dL_law_692 dL_law_693 dL_law_694 (by decide) dL_law_695 dL_law_696 ?_
  refine l_call 0 C0 hK clL_102 dL_law_697 c1 (by decide) hx0 rfl rfl (Nat.le_of_ble_eq_true rfl) Lc.1 (fun r h' hq => ?_)
  obtain ⟨rfl, ⟨fs, hx5⟩, c2⟩ := hq
  refine l_m C0 Lc dL_law_700 ?_
  refine l_arg 1 C0 hL Lc (by omega) dL_law_701 dL_law_702 dL_law_703 (by decide) dL_law_704 dL_law_705 ?_
  refine l_call 30 C0 hK clL_105 dL_law_706 c2 (by decide) hx5 rfl rfl (Nat.le_of_ble_eq_true rfl) Lc.1 (fun r h'' hq => ?_)
  obtain ⟨rfl, hR2⟩ := hq
  exact l_eq C0 dL_law_709 (by decide) (k _ hR2)
theorem l_c22 (C0 : lw_At p s m meth c b L xs) (hL : L ≤ 2048) (hK : x_K D dA s) (Lc : l_L ad b lsc i) (hi : i + 4 ≤ L) (hR : RX h) (k : ∀ h', RX h' → l_V p l e s m below meth c D dA ad b lsc 826 [] h') : l_V p l e s m below meth c D dA ad b lsc 714 [] h := by
  obtain ⟨_, _, _, _, _, _, _, rr⟩ := hR
  have hx0 := rr.1.1
  obtain ⟨a, c1⟩ := pp_drawn rr (xs (i + 1)) (xs (i + 2)) (xs (i + 3))
  refine l_x C0 Lc dL_law_714 ?_
  refine l_arg 1 C0 hL Lc (by omega) dL_law_715 dL_law_716 dL_law_717 (by decide) dL_law_718 dL_law_719 ?_
  refine l_arg 2 C0 hL Lc (by omega) dL_law_720 dL_law_721 dL_law_722 (by decide) dL_law_723 dL_law_724 ?_
  refine l_arg 3 C0 hL Lc (by omega) dL_law_725 dL_law_726 dL_law_727 (by decide) dL_law_728 dL_law_729 ?_
  refine l_call 0 C0 hK clL_106 dL_law_730 c1 (by decide) hx0 rfl rfl (Nat.le_of_ble_eq_true rfl) Lc.1 (fun r h' hq => ?_)
  obtain ⟨rfl, ⟨fs, hx5⟩, c2⟩ := hq
  refine l_m C0 Lc dL_law_733 ?_
  refine l_arg 1 C0 hL Lc (by omega) dL_law_734 dL_law_735 dL_law_736 (by decide) dL_law_737 dL_law_738 ?_
  refine l_arg 2 C0 hL Lc (by omega) dL_law_739 dL_law_740 dL_law_741 (by decide) dL_law_742 dL_law_743 ?_
  refine l_arg 3 C0 hL Lc (by omega) dL_law_744 dL_law_745 dL_law_746 (by decide) dL_law_747 dL_law_748 ?_
  refine l_call 30 C0 hK clL_109 dL_law_749 c2 (by decide) hx5 rfl rfl (Nat.le_of_ble_eq_true rfl) Lc.1 (fun r h'' hq => ?_)
  obtain ⟨rfl, hR2⟩ := hq
  exact l_eq C0 dL_law_752 (by decide) (k _ hR2)
theorem l_c23 (C0 : lw_At p s m meth c b L xs) (hL : L ≤ 2048) (hK : x_K D dA s) (Lc : l_L ad b lsc i) (hi : i + 4 ≤ L) (hR : RX h) (k : ∀ h', RX h' → l_V p l e s m below meth c D dA ad b lsc 826 [] h') : l_V p l e s m below meth c D dA ad b lsc 757 [] h := by
  obtain ⟨_, _, _, _, _, _, _, rr⟩ := hR
  have hx0 := rr.1.1
  obtain ⟨a, c1⟩ := pp_image rr (xs (i + 1))
  refine l_x C0 Lc dL_law_757 ?_
  refine l_arg 1 C0 hL Lc (by omega) dL_law_758 dL_law_759 dL_law_760 (by decide) dL_law_761 dL_law_762 ?_
  refine l_call 0 C0 hK clL_110 dL_law_763 c1 (by decide) hx0 rfl rfl (Nat.le_of_ble_eq_true rfl) Lc.1 (fun r h' hq => ?_)
  obtain ⟨rfl, ⟨fs, hx5⟩, c2⟩ := hq
  refine l_m C0 Lc dL_law_766 ?_
  refine l_arg 1 C0 hL Lc (by omega) dL_law_767 dL_law_768 dL_law_769 (by decide) dL_law_770 dL_law_771 ?_
  refine l_call 30 C0 hK clL_113 dL_law_772 c2 (by decide) hx5 rfl rfl (Nat.le_of_ble_eq_true rfl) Lc.1 (fun r h'' hq => ?_)
  obtain ⟨rfl, hR2⟩ := hq
  exact l_eq C0 dL_law_775 (by decide) (k _ hR2)
theorem l_c24 (C0 : lw_At p s m meth c b L xs) (hL : L ≤ 2048) (hK : x_K D dA s) (Lc : l_L ad b lsc i) (hi : i + 4 ≤ L) (hR : RX h) (k : ∀ h', RX h' → l_V p l e s m below meth c D dA ad b lsc 826 [] h') : l_V p l e s m below meth c D dA ad b lsc 780 [] h := by
  obtain ⟨_, _, _, _, _, _, _, rr⟩ := hR
  have hx0 := rr.1.1
  obtain ⟨a, c1⟩ := pp_restore rr (xs (i + 1))
  refine l_x C0 Lc dL_law_780 ?_
  refine l_arg 1 C0 hL Lc (by omega) dL_law_781 dL_law_782 dL_law_783 (by decide) dL_law_784 dL_law_785 ?_
  refine l_call 0 C0 hK clL_114 dL_law_786 c1 (by decide) hx0 rfl rfl (Nat.le_of_ble_eq_true rfl) Lc.1 (fun r h' hq => ?_)
  obtain ⟨rfl, ⟨fs, hx5⟩, c2⟩ := hq
  refine l_m C0 Lc dL_law_789 ?_
  refine l_arg 1 C0 hL Lc (by omega) dL_law_790 dL_law_791 dL_law_792 (by decide) dL_law_793 dL_law_794 ?_
  refine l_call 30 C0 hK clL_117 dL_law_795 c2 (by decide) hx5 rfl rfl (Nat.le_of_ble_eq_true rfl) Lc.1 (fun r h'' hq => ?_)
  obtain ⟨rfl, hR2⟩ := hq
  exact l_eq C0 dL_law_798 (by decide) (k _ hR2)
theorem l_c25 (C0 : lw_At p s m meth c b L xs) (hL : L ≤ 2048) (hK : x_K D dA s) (Lc : l_L ad b lsc i) (hi : i + 4 ≤ L) (hR : RX h) (k : ∀ h', RX h' → l_V p l e s m below meth c D dA ad b lsc 826 [] h') : l_V p l e s m below meth c D dA ad b lsc 803 [] h := by
  obtain ⟨_, _, _, _, _, _, _, rr⟩ := hR
  have hx0 := rr.1.1
  obtain ⟨a, c1⟩ := pp_told rr (xs (i + 1))
  refine l_x C0 Lc dL_law_803 ?_
  refine l_arg 1 C0 hL Lc (by omega) dL_law_804 dL_law_805 dL_law_806 (by decide) dL_law_807 dL_law_808 ?_
  refine l_call 0 C0 hK clL_118 dL_law_809 c1 (by decide) hx0 rfl rfl (Nat.le_of_ble_eq_true rfl) Lc.1 (fun r h' hq => ?_)
  obtain ⟨rfl, ⟨fs, hx5⟩, c2⟩ := hq
  refine l_m C0 Lc dL_law_812 ?_
  refine l_arg 1 C0 hL Lc (by omega) dL_law_813 dL_law_814 dL_law_815 (by decide) dL_law_816 dL_law_817 ?_
  refine l_call 30 C0 hK clL_121 dL_law_818 c2 (by decide) hx5 rfl rfl (Nat.le_of_ble_eq_true rfl) Lc.1 (fun r h'' hq => ?_)
  obtain ⟨rfl, hR2⟩ := hq
  exact l_eq C0 dL_law_821 (by decide) (k _ hR2)
end LC
