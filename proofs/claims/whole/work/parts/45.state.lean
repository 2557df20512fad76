/-! the state of an object of the class -/
theorem x_Ct_mono {d : Nat} {M : x_M} {as : List Value} {h : x_H} {Q Q' : Option Value → x_H → Prop} (hc : x_Ct d M as h Q) (hq : ∀ r h', Q r h' → Q' r h') : x_Ct d M as h Q' := by
  intro l D dA ad sz
  refine MetFree.mono (hc l D dA ad sz) (fun _ _ h => h) (fun _ _ _ _ _ h => h) ?_
  intro args s o t _ hh
  obtain ⟨⟨⟨r, h', b3, b4, b5⟩, b6⟩, b7⟩ := hh
  exact ⟨⟨⟨r, h', b3, hq _ _ b4, b5⟩, b6⟩, b7⟩
abbrev Sg : Type := Nat × Nat × Nat × (Nat → Nat) × (Nat → Nat) × (Nat → Nat)
abbrev Dg : Type := Nat × (Nat → Nat)
def okSg (s : Sg) : Prop := 1 ≤ s.1 ∧ s.1 ≤ 9 ∧ s.2.1 ≤ 2 ∧ s.2.2.1 ≤ 6 ∧ (∀ j, s.2.2.2.1 j ≤ 40) ∧ (∀ j, s.2.2.2.2.1 j < 8) ∧ (∀ j, s.2.2.2.2.2 j ≤ 1)
def sgAt (h : x_H) (k k1 k2 k3 : Nat) (s : Sg) : Prop := h k = x_stK k1 k2 k3 s.1 s.2.1 s.2.2.1 ∧ h k1 = x_na 6 s.2.2.2.1 ∧ h k2 = x_na 6 s.2.2.2.2.1 ∧ h k3 = x_za 6 s.2.2.2.2.2
/-- what a search leaves is what it finds for this day and setting, from some scratch -/
def CV (D : Dg) (S : Sg) (ak wy : Nat) (Fi Ca Cr : Nat → Nat) : Prop :=
  ∃ (fa0 W0 U0 Wr0 Fi0 Ca0 Cr0 fa W U : Nat → Nat) (T0 T : Nat → Option Nat) (l : Nat),
    (∀ j, W0 j < 256) ∧ (∀ j, U0 j < 256) ∧ (∀ j p, T0 j = some p → p < 8) ∧ (∀ j, Wr0 j < 8) ∧
    ak = (aqA D.2 D.1 0 0 fa0).1 ∧ fa = (aqA D.2 D.1 0 0 fa0).2 ∧ W = (spR D.1 S.2.2.1 S.2.2.2.1 S.2.2.2.2.1 S.2.2.2.2.2 W0 U0).1 ∧ U = (spR D.1 S.2.2.1 S.2.2.2.1 S.2.2.2.2.1 S.2.2.2.2.2 W0 U0).2.1 ∧ l = (spR D.1 S.2.2.1 S.2.2.2.1 S.2.2.2.2.1 S.2.2.2.2.2 W0 U0).2.2 ∧
    T = ktA D.1 D.2 S.2.1 S.1 W U 40 0 0 T0 ∧
    (rfS D.1 D.2 S.1 S.2.1 ak l fa W U T ([], Wr0, 0, mixN 4 (fun _ => 0) Fi0, mixN 4 (fun _ => 0) Ca0, mixN 8 (fun _ => 0) Cr0)).2.2 = (wy, Fi, Ca, Cr)
def srAt (h : x_H) (D : Dg) (S : Sg) : Prop :=
  ∃ (fr : Bool) (wy ak l : Nat) (i1 i2 : Int32) (l1 l2 l3 l4 : Int64) (Fi Ca Cr fa Wr W U : Nat → Nat) (T : Nat → Option Nat),
    h 10 = x_sr (b2I fr) (nI wy) (nI ak) (nI l) ∧ h 11 = x_bd0 i1 i2 l1 l2 l3 l4 ∧ h 12 = x_na 4 Fi ∧ h 13 = x_na 4 Ca ∧ h 14 = x_na 8 Cr ∧ h 15 = x_na 4 fa ∧ h 16 = x_na 4 Wr ∧ h 17 = x_na 41 W ∧ h 18 = x_na 41 U ∧ h 19 = x_oa 40 T ∧
    (∀ j, W j < 256) ∧ (∀ j, U j < 256) ∧ (∀ j p, T j = some p → p < 8) ∧ (∀ j, Wr j < 8) ∧ ak ≤ 4 ∧ wy < 2 ^ 31 ∧ (fr = true → CV D S ak wy Fi Ca Cr)
def bdAt (h : x_H) : Prop := ∃ (i1 i2 : Int32) (l1 l2 l3 l4 : Int64), h 9 = x_bd0 i1 i2 l1 l2 l3 l4
def plAt (h : x_H) : Prop := ∃ g : Nat → Int32, h 20 = x_ia 6 g
def sdAt (h : x_H) : Prop := ∃ g : Nat → Int64, h 21 = x_la 12 g
def imAt (h : x_H) : Prop := ∃ f : Nat → Option Nat, h 7 = .inl (3, 2, .inr (.inr (.inr (.inr f)))) ∧ f 0 = some 22 ∧ f 1 = some 26
def XS (h : x_H) (D : Dg) (S : Sg) (K : Nat → Nat) (I0 I1 : Sg) : Prop :=
  h 0 = x_x ∧ (h 1 = x_dy D.1 ∧ h 2 = x_sg D.2 ∧ okD D.1 D.2) ∧ (sgAt h 3 4 5 6 S ∧ okSg S) ∧ imAt h ∧ (h 8 = x_za 2 K ∧ ∀ j, K j ≤ 1) ∧ bdAt h ∧ srAt h D S ∧ plAt h ∧ sdAt h ∧ (sgAt h 22 23 24 25 I0 ∧ okSg I0) ∧ (sgAt h 26 27 28 29 I1 ∧ okSg I1)
def fr30 (h h' : x_H) : Prop := ∀ k, 30 ≤ k → h' k = h k
theorem sgAt_eq {h h' : x_H} {k k1 k2 k3 : Nat} {s : Sg} (hs : sgAt h k k1 k2 k3 s) (e0 : h' k = h k) (e1 : h' k1 = h k1) (e2 : h' k2 = h k2) (e3 : h' k3 = h k3) : sgAt h' k k1 k2 k3 s :=
  ⟨e0.trans hs.1, e1.trans hs.2.1, e2.trans hs.2.2.1, e3.trans hs.2.2.2⟩
theorem srAt_eq {h h' : x_H} {D : Dg} {S : Sg} (hs : srAt h D S) (e : ∀ k, 10 ≤ k → k < 20 → h' k = h k) : srAt h' D S := by
  obtain ⟨fr, wy, ak, l, i1, i2, l1, l2, l3, l4, Fi, Ca, Cr, fa, Wr, W, U, T, a0, a1, a2, a3, a4, a5, a6, a7, a8, a9, rest⟩ := hs
  exact ⟨fr, wy, ak, l, i1, i2, l1, l2, l3, l4, Fi, Ca, Cr, fa, Wr, W, U, T, (e 10 (by decide) (by decide)).trans a0, (e 11 (by decide) (by decide)).trans a1, (e 12 (by decide) (by decide)).trans a2, (e 13 (by decide) (by decide)).trans a3, (e 14 (by decide) (by decide)).trans a4, (e 15 (by decide) (by decide)).trans a5, (e 16 (by decide) (by decide)).trans a6, (e 17 (by decide) (by decide)).trans a7, (e 18 (by decide) (by decide)).trans a8, (e 19 (by decide) (by decide)).trans a9, rest⟩
theorem XS_eq {h h' : x_H} {D : Dg} {S : Sg} {K : Nat → Nat} {I0 I1 : Sg} (hs : XS h D S K I0 I1) (e : ∀ k, k < 30 → k ≠ 9 → k ≠ 20 → k ≠ 21 → h' k = h k) (hb : bdAt h') (hp : plAt h') (hd : sdAt h') : XS h' D S K I0 I1 := by
  obtain ⟨a0, ⟨a1, a2, a3⟩, ⟨a4, a5⟩, ⟨f, a6, a7⟩, ⟨a8, a9⟩, -, b1, -, -, ⟨b4, b5⟩, ⟨b6, b7⟩⟩ := hs
  have q : ∀ k, (decide (k < 30) && !(k == 9) && !(k == 20) && !(k == 21)) = true → h' k = h k := by
    intro k hk
    simp only [Bool.and_eq_true, decide_eq_true_eq, Bool.not_eq_true', beq_eq_false_iff_ne] at hk
    exact e k hk.1.1.1 hk.1.1.2 hk.1.2 hk.2
  exact ⟨(q 0 rfl).trans a0, ⟨(q 1 rfl).trans a1, (q 2 rfl).trans a2, a3⟩, ⟨sgAt_eq a4 (q 3 rfl) (q 4 rfl) (q 5 rfl) (q 6 rfl), a5⟩, ⟨f, (q 7 rfl).trans a6, a7⟩, ⟨(q 8 rfl).trans a8, a9⟩, hb, srAt_eq b1 (fun k h1 h2 => e k (by omega) (by omega) (by omega) (by omega)), hp, hd, ⟨sgAt_eq b4 (q 22 rfl) (q 23 rfl) (q 24 rfl) (q 25 rfl), b5⟩, ⟨sgAt_eq b6 (q 26 rfl) (q 27 rfl) (q 28 rfl) (q 29 rfl), b7⟩⟩
theorem XS_Bq {h h' : x_H} {D : Dg} {S : Sg} {K : Nat → Nat} {I0 I1 : Sg} (hs : XS h D S K I0 I1) (hb : Bq h h') : XS h' D S K I0 I1 ∧ fr30 h h' := by
  obtain ⟨i1, i2, l1, l2, l3, l4, rfl⟩ := hb
  refine ⟨XS_eq hs (fun k _ h9 _ _ => x_up_n h9) ⟨_, _, _, _, _, _, x_up_s⟩ ?_ ?_, fun k hk => x_up_n (by omega)⟩
  · obtain ⟨g, hg⟩ := hs.2.2.2.2.2.2.2.1; exact ⟨g, (x_up_n (by decide)).trans hg⟩
  · obtain ⟨g, hg⟩ := hs.2.2.2.2.2.2.2.2.1; exact ⟨g, (x_up_n (by decide)).trans hg⟩
theorem XS_Pq {h h' : x_H} {D : Dg} {S : Sg} {K : Nat → Nat} {I0 I1 : Sg} (hs : XS h D S K I0 I1) (hb : Pq h h') : XS h' D S K I0 I1 ∧ fr30 h h' := by
  obtain ⟨g, i1, i2, l1, l2, l3, l4, rfl⟩ := hb
  refine ⟨XS_eq hs (fun k _ h9 h20 _ => (x_up_n h9).trans (x_up_n h20)) ⟨_, _, _, _, _, _, x_up_s⟩ ⟨g, (x_up_n (by decide)).trans x_up_s⟩ ?_, fun k hk => (x_up_n (by omega)).trans (x_up_n (by omega))⟩
  obtain ⟨g, hg⟩ := hs.2.2.2.2.2.2.2.2.1; exact ⟨g, (x_up_n (by decide)).trans ((x_up_n (by decide)).trans hg)⟩
theorem XS_Sq {h h' : x_H} {D : Dg} {S : Sg} {K : Nat → Nat} {I0 I1 : Sg} (hs : XS h D S K I0 I1) (hb : Sq h h') : XS h' D S K I0 I1 ∧ fr30 h h' := by
  obtain ⟨g, i1, i2, l1, l2, l3, l4, rfl⟩ := hb
  refine ⟨XS_eq hs (fun k _ h9 _ h21 => (x_up_n h9).trans (x_up_n h21)) ⟨_, _, _, _, _, _, x_up_s⟩ ?_ ⟨g, (x_up_n (by decide)).trans x_up_s⟩, fun k hk => (x_up_n (by omega)).trans (x_up_n (by omega))⟩
  obtain ⟨g, hg⟩ := hs.2.2.2.2.2.2.2.1; exact ⟨g, (x_up_n (by decide)).trans ((x_up_n (by decide)).trans hg)⟩
/-- a call's end: the answer, the state behind it, nothing of the other object changed -/
def XE (h : x_H) (a : Int32) (D : Dg) (S : Sg) (K : Nat → Nat) (I0 I1 : Sg) : Option Value → x_H → Prop := fun r h' => r = some (.int a) ∧ XS h' D S K I0 I1 ∧ fr30 h h'
theorem pX_fault (d : Nat) (h : x_H) {D : Dg} {S : Sg} {K : Nat → Nat} {I0 I1 : Sg} (hs : XS h D S K I0 I1)  : x_Ct (d + 3) mX4_fault [.ref 0] h (XE h (fI (ff D.1 D.2)) D S K I0 I1) := by
  obtain ⟨a0, ⟨a1, a2, a3⟩, ⟨a4, a5⟩, -, -, ⟨i1, i2, l1, l2, l3, l4, hb⟩, -⟩ := id hs
  exact x_Ct_mono (cX_fault d h a0 a1 a2 a3) (fun r h' hq => ⟨hq.1, by rw [hq.2]; exact ⟨hs, fun _ _ => rfl⟩⟩)
theorem pX_stands (d : Nat) (h : x_H) {D : Dg} {S : Sg} {K : Nat → Nat} {I0 I1 : Sg} (hs : XS h D S K I0 I1) (e p : Int32) : x_Ct (d + 5) mX4_stands [.ref 0, .int e, .int p] h (XE h (aStands D.1 D.2 S.1 S.2.1 e p) D S K I0 I1) := by
  obtain ⟨a0, ⟨a1, a2, a3⟩, ⟨a4, a5⟩, -, -, ⟨i1, i2, l1, l2, l3, l4, hb⟩, -⟩ := id hs
  exact x_Ct_mono (cX_stands d h a0 a1 a2 a3 (q := S.2.2.1) a4.1 a5.1 a5.2.1 a5.2.2.1 hb e p) (fun r h' hq => ⟨hq.1, XS_Bq hs hq.2⟩)
theorem pX_read (d : Nat) (h : x_H) {D : Dg} {S : Sg} {K : Nat → Nat} {I0 I1 : Sg} (hs : XS h D S K I0 I1) (p : Int32) : x_Ct (d + 5) mX4_read [.ref 0, .int p] h (XE h (aRead D.1 D.2 S.1 S.2.1 p) D S K I0 I1) := by
  obtain ⟨a0, ⟨a1, a2, a3⟩, ⟨a4, a5⟩, -, -, ⟨i1, i2, l1, l2, l3, l4, hb⟩, -⟩ := id hs
  exact x_Ct_mono (cX_read d h a0 a1 a2 a3 (q := S.2.2.1) a4.1 a5.1 a5.2.1 a5.2.2.1 hb p) (fun r h' hq => ⟨hq.1, XS_Bq hs hq.2⟩)
theorem pX_seen (d : Nat) (h : x_H) {D : Dg} {S : Sg} {K : Nat → Nat} {I0 I1 : Sg} (hs : XS h D S K I0 I1) (p : Int32) : x_Ct (d + 5) mX4_seen [.ref 0, .int p] h (XE h (aSeen D.1 D.2 S.1 S.2.1 p) D S K I0 I1) := by
  obtain ⟨a0, ⟨a1, a2, a3⟩, ⟨a4, a5⟩, -, -, ⟨i1, i2, l1, l2, l3, l4, hb⟩, -⟩ := id hs
  exact x_Ct_mono (cX_seen d h a0 a1 a2 a3 (q := S.2.2.1) a4.1 a5.1 a5.2.1 a5.2.2.1 hb p) (fun r h' hq => ⟨hq.1, XS_Bq hs hq.2⟩)
theorem pX_missed (d : Nat) (h : x_H) {D : Dg} {S : Sg} {K : Nat → Nat} {I0 I1 : Sg} (hs : XS h D S K I0 I1) (i : Int32) : x_Ct (d + 5) mX4_missed [.ref 0, .int i] h (XE h (aMissed D.1 D.2 S.1 S.2.1 i) D S K I0 I1) := by
  obtain ⟨a0, ⟨a1, a2, a3⟩, ⟨a4, a5⟩, -, -, ⟨i1, i2, l1, l2, l3, l4, hb⟩, -⟩ := id hs
  exact x_Ct_mono (cX_missed d h a0 a1 a2 a3 (q := S.2.2.1) a4.1 a5.1 a5.2.1 a5.2.2.1 hb i) (fun r h' hq => ⟨hq.1, XS_Bq hs hq.2⟩)
theorem pX_cross (d : Nat) (h : x_H) {D : Dg} {S : Sg} {K : Nat → Nat} {I0 I1 : Sg} (hs : XS h D S K I0 I1) (p what : Int32) : x_Ct (d + 6) mX4_cross [.ref 0, .int p, .int what] h (XE h (aCross D.1 D.2 S.1 S.2.1 p what) D S K I0 I1) := by
  obtain ⟨a0, ⟨a1, a2, a3⟩, ⟨a4, a5⟩, -, -, ⟨i1, i2, l1, l2, l3, l4, hb⟩, -⟩ := id hs
  exact x_Ct_mono (cX_cross d h a0 a1 a2 a3 (q := S.2.2.1) a4.1 a5.1 a5.2.1 a5.2.2.1 hb p what) (fun r h' hq => ⟨hq.1, XS_Bq hs hq.2⟩)
theorem pX_unseen (d : Nat) (h : x_H) {D : Dg} {S : Sg} {K : Nat → Nat} {I0 I1 : Sg} (hs : XS h D S K I0 I1) (p : Int32) : x_Ct (d + 6) mX4_unseen [.ref 0, .int p] h (XE h (aUnseen D.1 D.2 S.1 S.2.1 p) D S K I0 I1) := by
  obtain ⟨a0, ⟨a1, a2, a3⟩, ⟨a4, a5⟩, -, -, ⟨i1, i2, l1, l2, l3, l4, hb⟩, -⟩ := id hs
  exact x_Ct_mono (cX_unseen d h a0 a1 a2 a3 (q := S.2.2.1) a4.1 a5.1 a5.2.1 a5.2.2.1 hb p) (fun r h' hq => ⟨hq.1, XS_Bq hs hq.2⟩)
theorem pX_look (d : Nat) (h : x_H) {D : Dg} {S : Sg} {K : Nat → Nat} {I0 I1 : Sg} (hs : XS h D S K I0 I1) (what : Int32) : x_Ct (d + 5) mX4_look [.ref 0, .int what] h (XE h (aLook D.1 D.2 S.1 S.2.1 what) D S K I0 I1) := by
  obtain ⟨a0, ⟨a1, a2, a3⟩, ⟨a4, a5⟩, -, -, ⟨i1, i2, l1, l2, l3, l4, hb⟩, -⟩ := id hs
  exact x_Ct_mono (cX_look d h a0 a1 a2 a3 (q := S.2.2.1) a4.1 a5.1 a5.2.1 a5.2.2.1 hb what) (fun r h' hq => ⟨hq.1, XS_Bq hs hq.2⟩)
theorem pX_best (d : Nat) (h : x_H) {D : Dg} {S : Sg} {K : Nat → Nat} {I0 I1 : Sg} (hs : XS h D S K I0 I1) (what : Int32) : x_Ct (d + 5) mX4_best [.ref 0, .int what] h (XE h (aBest D.1 D.2 S.2.1 what) D S K I0 I1) := by
  obtain ⟨a0, ⟨a1, a2, a3⟩, ⟨a4, a5⟩, -, -, ⟨i1, i2, l1, l2, l3, l4, hb⟩, -⟩ := id hs
  exact x_Ct_mono (cX_best d h a0 a1 a2 a3 (q := S.2.2.1) a4.1 a5.1 a5.2.1 a5.2.2.1 hb what) (fun r h' hq => ⟨hq.1, XS_Bq hs hq.2⟩)
theorem pX_stood (d : Nat) (h : x_H) {D : Dg} {S : Sg} {K : Nat → Nat} {I0 I1 : Sg} (hs : XS h D S K I0 I1) (v : Int32) : x_Ct (d + 5) mX4_stood [.ref 0, .int v] h (XE h (aStood D.1 D.2 S.2.1 v) D S K I0 I1) := by
  obtain ⟨a0, ⟨a1, a2, a3⟩, ⟨a4, a5⟩, -, -, ⟨i1, i2, l1, l2, l3, l4, hb⟩, -⟩ := id hs
  exact x_Ct_mono (cX_stood d h a0 a1 a2 a3 (q := S.2.2.1) a4.1 a5.1 a5.2.1 a5.2.2.1 hb v) (fun r h' hq => ⟨hq.1, XS_Bq hs hq.2⟩)
theorem pX_gone (d : Nat) (h : x_H) {D : Dg} {S : Sg} {K : Nat → Nat} {I0 I1 : Sg} (hs : XS h D S K I0 I1) (p : Int32) : x_Ct (d + 5) mX4_gone [.ref 0, .int p] h (XE h (aGone D.1 D.2 S.1 S.2.1 p) D S K I0 I1) := by
  obtain ⟨a0, ⟨a1, a2, a3⟩, ⟨a4, a5⟩, -, -, ⟨i1, i2, l1, l2, l3, l4, hb⟩, -⟩ := id hs
  exact x_Ct_mono (cX_gone d h a0 a1 a2 a3 (q := S.2.2.1) a4.1 a5.1 a5.2.1 a5.2.2.1 hb p) (fun r h' hq => ⟨hq.1, XS_Bq hs hq.2⟩)
theorem pX_out (d : Nat) (h : x_H) {D : Dg} {S : Sg} {K : Nat → Nat} {I0 I1 : Sg} (hs : XS h D S K I0 I1) (e : Int32) : x_Ct (d + 5) mX4_out [.ref 0, .int e] h (XE h (aOut D.1 D.2 S.1 S.2.1 e) D S K I0 I1) := by
  obtain ⟨a0, ⟨a1, a2, a3⟩, ⟨a4, a5⟩, -, -, ⟨i1, i2, l1, l2, l3, l4, hb⟩, -⟩ := id hs
  exact x_Ct_mono (cX_out d h a0 a1 a2 a3 (q := S.2.2.1) a4.1 a5.1 a5.2.1 a5.2.2.1 hb e) (fun r h' hq => ⟨hq.1, XS_Bq hs hq.2⟩)
theorem pX_drawn (d : Nat) (h : x_H) {D : Dg} {S : Sg} {K : Nat → Nat} {I0 I1 : Sg} (hs : XS h D S K I0 I1) (s m p : Int32) : x_Ct (d + 5) mX4_drawn [.ref 0, .int s, .int m, .int p] h (XE h (aDrawn D.1 D.2 S.1 S.2.1 s m p) D S K I0 I1) := by
  obtain ⟨a0, ⟨a1, a2, a3⟩, ⟨a4, a5⟩, -, -, ⟨i1, i2, l1, l2, l3, l4, hb⟩, -⟩ := id hs
  exact x_Ct_mono (cX_drawn d h a0 a1 a2 a3 (q := S.2.2.1) a4.1 a5.1 a5.2.1 a5.2.2.1 hb s m p) (fun r h' hq => ⟨hq.1, XS_Bq hs hq.2⟩)
theorem pX_hired (d : Nat) (h : x_H) {D : Dg} {S : Sg} {K : Nat → Nat} {I0 I1 : Sg} (hs : XS h D S K I0 I1) (m p i : Int32) : ∃ g : Nat → Int32, x_Ct (d + 6) mX4_hired [.ref 0, .int m, .int p, .int i] h (XE h (aHired D.1 D.2 S.1 S.2.1 g m p i) D S K I0 I1) := by
  obtain ⟨a0, ⟨a1, a2, a3⟩, ⟨a4, a5⟩, -, -, ⟨i1, i2, l1, l2, l3, l4, hb⟩, -, ⟨g, hg⟩, -⟩ := id hs
  exact ⟨g, x_Ct_mono (cX_hired d h a0 a1 a2 a3 (q := S.2.2.1) a4.1 a5.1 a5.2.1 a5.2.2.1 hb hg m p i) (fun r h' hq => ⟨hq.1, XS_Pq hs hq.2⟩)⟩
theorem pX_looks (d : Nat) (h : x_H) {D : Dg} {S : Sg} {K : Nat → Nat} {I0 I1 : Sg} (hs : XS h D S K I0 I1) (what : Int32) : ∃ g : Nat → Int64, x_Ct (d + 6) mX4_looks [.ref 0, .int what] h (XE h (aLooks D.1 D.2 S.1 S.2.1 g what) D S K I0 I1) := by
  obtain ⟨a0, ⟨a1, a2, a3⟩, ⟨a4, a5⟩, -, -, ⟨i1, i2, l1, l2, l3, l4, hb⟩, -, -, ⟨g, hg⟩, -⟩ := id hs
  exact ⟨g, x_Ct_mono (cX_looks d h a0 a1 a2 a3 (q := S.2.2.1) a4.1 a5.1 a5.2.1 a5.2.2.1 hb hg what) (fun r h' hq => ⟨hq.1, XS_Sq hs hq.2⟩)⟩
