/-! the law from its entry -/
theorem L_sub : ∀ w ∈ x_base, w ∈ lw_tbl := fun _ hw => (List.mem_filter.mp hw).1
theorem L_nest {args : Array Value} {s : State} (hts : ∀ w ∈ lw_tbl, w.before args s = true) : ∀ w ∈ x_nest, va_Nw w s := by
  intro w hw
  have h1 := (List.mem_filter.mp hw).1
  have h2 := (List.mem_filter.mp hw).2
  have h3 := hts w (List.mem_append_right _ h1)
  cases w <;> first | exact va_Nw.of rfl h3 | (simp [x_isN] at h2; done)
theorem L_kn {args : Array Value} {s : State} {own : String} {idx ci N : Nat} {fs : List Value} (hts : ∀ w ∈ lw_tbl, w.before args s = true) (hN : x_NW own idx ci N fs) : ∃ (C : String) (T : u_T) (cC : ClassId) (iS : Nat → Nat), vwCl[ci]? = some (C, T, N) ∧ u_Kn s C T N cC iS := by
  obtain ⟨C, T, h1, h2, h3, h4, h5, -⟩ := hN
  obtain ⟨cC, iS, h6⟩ := u_known (n := N) hts (fun w hw => L_sub _ (h2 w hw)) (hts _ (L_sub _ h4))
  exact ⟨C, T, cC, iS, h1, h6⟩
theorem L_arr {args : Array Value} {s : State} (hts : ∀ w ∈ lw_tbl, w.before args s = true) {ty : FieldType} (hw : Cond.arrayClass ty ∈ lw_tbl) : ∃ cA, ArrOfT s cA ty ∧ s.vm.findClass ("[" ++ ty.toString) = some cA := by
  obtain ⟨cA, kA, comp, h1, h2, h3⟩ := Cond.arrayClass_spec (hts _ hw)
  exact ⟨cA, fun n z => ⟨fun k h => (by cases h), kA, h2, comp, h3⟩, h1⟩
theorem L_K {args : Array Value} {s : State} (hts : ∀ w ∈ lw_tbl, w.before args s = true) : ∃ (D : va_G) (dA : Nat → ClassId), y_K D dA s := by
  obtain ⟨C0, T0, c0, i0, e0, k0⟩ := L_kn hts nwX4_31
  obtain ⟨C1, T1, c1, i1, e1, k1⟩ := L_kn hts nwX4_9
  obtain ⟨C2, T2, c2, i2, e2, k2⟩ := L_kn hts nwX4_38
  obtain ⟨C3, T3, c3, i3, e3, k3⟩ := L_kn hts nwX4_16
  obtain ⟨C4, T4, c4, i4, e4, k4⟩ := L_kn hts nwL_7
  obtain ⟨C5, T5, c5, i5, e5, k5⟩ := L_kn hts nwL_10
  cases e0; cases e1; cases e2; cases e3; cases e4; cases e5
  obtain ⟨a0, r0, f0⟩ := L_arr hts (ty := .int) (L_sub _ (x_in 86 (by decide +kernel) rfl))
  obtain ⟨a1, r1, f1⟩ := L_arr hts (ty := .boolean) (L_sub _ (x_in 121 (by decide +kernel) rfl))
  obtain ⟨a2, r2, f2⟩ := L_arr hts (ty := .long) (L_sub _ (x_in 224 (by decide +kernel) rfl))
  have hov : (Cond.arrayOver (.object "NineNames$Setting")).before args s = true := hts _ (List.mem_of_getElem? (i := 122) (by decide +kernel))
  obtain ⟨comp, a3, kA, g1, -, g3, g4, g5⟩ := Cond.arrayOver_spec hov
  refine ⟨(fun k => [c0, c1, c2, c3, c4, c5].getD k 0, fun k => [i0, i1, i2, i3, i4, i5].getD k (fun _ => 0)), fun k => [a0, a1, a2, a3].getD k 0, ⟨⟨?_, ?_⟩, L_nest hts⟩, va_AO.of hov⟩
  · intro k q hq
    match k, hq with
    | 0, hq => cases hq; exact k0
    | 1, hq => cases hq; exact k1
    | 2, hq => cases hq; exact k2
    | 3, hq => cases hq; exact k3
    | 4, hq => cases hq; exact k4
    | 5, hq => cases hq; exact k5
    | k + 6, hq => simp [vwCl] at hq
  · intro k q hq
    match k, hq with
    | 0, hq => cases hq; exact ⟨r0, f0⟩
    | 1, hq => cases hq; exact ⟨r1, f1⟩
    | 2, hq => cases hq; exact ⟨r2, f2⟩
    | 3, hq => cases hq; exact ⟨fun n z => ⟨fun k h => (by cases h), kA, g3, comp, g4⟩, kA, comp, g3, g4, g1, g5⟩
    | k + 4, hq => simp [x_tys] at hq
theorem L_good {M : x_M} (h : Cond.code M.1 M.2.1 M.2.2.1 M.2.2.2 ∈ x_base) : GoodIn lw_tbl (x_ws M) := by
  intro w hw
  rcases List.mem_cons.mp hw with rfl | hw
  · exact ⟨L_sub _ h, good_of_word (x_base_all _ h)⟩
  · exact ⟨L_sub _ hw, good_of_word (x_base_all _ hw)⟩
/-- the law makes an object -/
theorem L_new {p : Program} {l : Launch} {e : Env} {s : State} {m : MethodId} {below : List Frame} {meth : Method} {c : Code} {H : Heap} {locs : List Loc} {cells slots : Nat} {Q : State → Prop} {D : va_G} {dA : Nat → ClassId} {A : Nat → Prop} {ws : va_W} {lsc : Array Slot} {b L : Nat} {xs : Nat → Int32}
    {pc idx ix2 ci N : Nat} {fs : List Value} {d' mc' ms' : Nat} {M' : x_M} {Qw' : (Nat → ClassId) → Nat → (Nat → Nat) → va_W}
    (C0 : lw_At p s m meth c b L xs) (hK : y_K D dA s) (Wd : y_Wd D A ws s H locs) (hl : lsc.size = 4) (hN : x_NW RL idx ci N fs) (hd1 : decode code pc = .ok (.new idx, 3)) (hd2 : decode code (pc + 3) = .ok (.dup, 1)) (hd3 : decode code (pc + 4) = .ok (.invokespecial ix2, 3)) (hC : y_Ct d' mc' ms' M' (.inr (ci, fs)) Qw') (hB : x_CB M' 0) (hi : Cond.instanceMethod M'.1 ∈ x_base) (hlk : Cond.methodLink RL ix2 M'.1 ∈ x_base) (hnm : M'.1.name = "<init>") (hret : M'.2.2.2 = none)
    (hdd : d' < 100) (hc : cells + 1 + mc' ≤ 1000) (hs : slots + N + ms' ≤ 1000)
    (k : ∀ (q : Nat) (u : Nat → Nat) (H2 : Heap) (locs2 : List Loc), y_Wd D A (ws ++ Qw' dA q u) s H2 locs2 → W p l e room_1 s m #[Value.ref b] below meth c H2 locs2 (cells + 1 + mc') (slots + N + ms') Q (F0 m (pc + 7) lsc [.ref q])) :
    W p l e room_1 s m #[Value.ref b] below meth c H locs cells slots Q (F0 m pc lsc []) := by
  obtain ⟨hx, hb, hr, hml, hown, hts, hX, hbl, hlocks, hgv⟩ := C0
  have hw : x_ws M' = Cond.code M'.1 M'.2.1 M'.2.2.1 none :: x_base := by unfold x_ws; rw [hret]
  have hml' := hB.2.2.2
  refine w_newi (mc' := mc') (ms' := ms') (Qw' := Qw') hx hb hown hts L_sub hK Wd hN hd1 hd2 (by show cells + 1 ≤ 600000; omega) (by show slots + N ≤ 7302250; omega) (fun q H1 hP1 hD1 => ?_) k
  refine va_runI (As := []) (rest := [.ref q]) ⟨hx, hb, hml, hown, hts⟩ (hC l D dA q H1.size) (cwI 0 hts (L_good hB.1) hw rfl rfl (hts _ (L_sub _ hB.2.1)) (hts _ (L_sub _ hlk)) (hts _ (L_sub _ hi)) hnm hB.2.2.1 ⟨?_, ?_⟩) ⟨y_blind _ _ _ _ _, fun U hU hW => ⟨rfl, by rw [hU], by rw [hU]; exact hP1, y_K_warm hW hK, hD1⟩⟩ rfl rfl hl rfl (lv_room (Nat.le_of_ble_eq_true rfl)) hd3 ⟨?_, ?_⟩
  · show d' + 1 ≤ 2048; omega
  · show 8 + (M'.2.2.1 + 11) + 40 * d' ≤ 84000; omega
  · show cells + 1 + mc' ≤ 600000; omega
  · show slots + N + ms' ≤ 7302250; omega
set_option maxRecDepth 100000 in
set_option maxHeartbeats 4000000 in
/-- from the entry, for every script of at most 2048 ints, the law comes to its end with true -/
theorem whole_start {p : Program} {e : Env} {s : State} {m : MethodId} {below : List Frame} {meth : Method} {c : Code} (l : Launch) {b L : Nat} {xs : Nat → Int32} (hL : L ≤ 2048) (C0 : lw_At p s m meth c b L xs) : W p l e room_1 s m #[Value.ref b] below meth c s.heap [] 0 0 (lw_Z below #[Value.ref b] s) (entryFrame m ([Value.ref b] : List Value).toArray 4) := by
  obtain ⟨D, dA, hK⟩ := L_K C0.2.2.2.2.2.1
  have hl := lv_entry ([.ref b]) (n := 4) (Nat.le_of_ble_eq_true rfl)
  rw [lg_entry_eq]
  generalize (lg_sl ([.ref b]) ++ List.replicate (4 - (lg_sl ([.ref b])).length) Slot.unset).toArray = lsc at hl ⊢
  have hl : lv_has lsc 4 [(0, .ref b)] := hl
  refine L_new (ws := []) (A := fun q => s.heap.size ≤ q) (cells := 0) (slots := 0) C0 hK ⟨⟨fun i j p q h => by simp at h, fun k q h => by simp at h⟩, va_S.rf, fun k q h => by simp at h, fun _ h => h⟩ hl.1 nwL_7 dL_law_0 dL_law_3 dL_law_4 iX4_new cbX4_init imX4_init (x_in 65 (by decide +kernel) rfl) rfl rfl (by decide) (by decide) (by decide) (fun q0 u0 H1 locs1 Wd1 => ?_)
  refine lv_astore_n (lv' := [(1, .ref q0), (0, .ref b)]) C0.1 C0.2.1 dL_law_7 rfl hl (by decide) rfl (fun lsc1 hl1 => ?_)
  refine L_new (ws := [] ++ wX4 dA q0 u0) (A := fun q => s.heap.size ≤ q) C0 hK Wd1 hl1.1 nwL_10 dL_law_8 dL_law_11 dL_law_12 iX5_new cbX5_init imX5_init (x_in 574 (by decide +kernel) rfl) rfl rfl (by decide) (by decide) (by decide) (fun q1 u1 H2 locs2 Wd2 => ?_)
  refine lv_astore_n (lv' := [(2, .ref q1), (1, .ref q0), (0, .ref b)]) C0.1 C0.2.1 dL_law_15 rfl hl1 (by decide) rfl (fun lsc2 hl2 => ?_)
  refine lv_iconst (v := nI 0) C0.1 C0.2.1 dL_law_16 (by decide) ?_
  refine lv_istore_n (lv' := [(3, .int (nI 0)), (2, .ref q1), (1, .ref q0), (0, .ref b)]) C0.1 C0.2.1 dL_law_17 rfl hl2 (by decide) rfl (fun lsc3 hl3 => ?_)
  have ew : x_w dA (adI q0 u0 q1 u1) hI = [] ++ wX4 dA q0 u0 ++ wX5 dA q1 u1 := w_eq dA q0 u0 q1 u1
  obtain ⟨w1, w2, w3, w4⟩ := Wd2
  rw [← ew] at w1 w3
  have hl4 : l_L (adI q0 u0 q1 u1) b lsc3 0 := lv_sub hl3 [3, 2, 1, 0] rfl
  exact l_loop C0 hL hK.1 L 0 lsc3 hI (by omega) (Nat.zero_le _) hl4 RX_0 H2 locs2 ⟨w1, w2, w3, w4⟩
