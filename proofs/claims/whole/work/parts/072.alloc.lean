/-! WHAT MAKES OBJECTS, AND WHAT THROWS -/
def ob4 {α β γ : Type} (a : Option (α × β × Nat × Nat)) (f : α → β → Nat → Nat → Option γ) : Option γ := match a with
  | some (x, y, c, s) => f x y c s
  | none => none
theorem ob4_some {α β γ : Type} {a : Option (α × β × Nat × Nat)} {f : α → β → Nat → Nat → Option γ} {r : γ} (h : ob4 a f = some r) : ∃ x y c s, a = some (x, y, c, s) ∧ f x y c s = some r := by
  cases a with
  | none => cases h
  | some q => exact ⟨q.1, q.2.1, q.2.2.1, q.2.2.2, rfl, h⟩
/-- so much more is made -/
def ac {α β : Type} (c s : Nat) (a : Option (α × β × Nat × Nat)) : Option (α × β × Nat × Nat) := match a with
  | some (x, y, c', s') => some (x, y, c' + c, s' + s)
  | none => none
theorem ac_some {α β : Type} {c s c9 s9 : Nat} {a : Option (α × β × Nat × Nat)} {x : α} {y : β} (h : ac c s a = some (x, y, c9, s9)) : ∃ c' s', a = some (x, y, c', s') ∧ c9 = c' + c ∧ s9 = s' + s := by
  cases a with
  | none => cases h
  | some q =>
    obtain ⟨x', y', c', s'⟩ := q
    cases h
    exact ⟨c', s', rfl, rfl, rfl⟩
def nz {α : Type} (o : Option Nat) (f g : Option α) : Option α := match o with
  | none => f
  | some _ => g
theorem V_hp {M : MI} {x : Cx} {d pc : Nat} {lv : List (Nat × Value)} {st : List Value} {h h2 : Hp} {bc bs : Nat} (hh : h = h2) (kk : V M x d pc lv st h2 bc bs) : V M x d pc lv st h bc bs := by
  subst hh
  exact kk
theorem kd_eq {h h2 : Hp} {a k : Nat} (hh : h = h2) (f : kd h a = k) : kd h2 a = k := by
  subst hh
  exact f
theorem kd_sI {h : Hp} {a k b n : Nat} {v : Int32} (f : kd h b = n) : kd (setI h a k v) b = n := f
theorem kd_sR {h : Hp} {a k b n : Nat} {v : Option Nat} (f : kd h b = n) : kd (setR h a k v) b = n := f
theorem kd_sC {h : Hp} {s d b n : Nat} {sp dp m : Int32} (f : kd h b = n) : kd (cpA h s sp d dp m) b = n := f
theorem kd_newq {h : Hp} {k n q : Nat} (hq : zN h = q) : kd (alloc h k n) q = k := by
  subst hq
  have e1 : zK (alloc h k n) (zN h) = (k, n) := va_up_at _ _ _
  unfold kd
  rw [if_pos (show zN h < zN (alloc h k n) from Nat.lt_succ_self _), e1]
theorem kd_old {h : Hp} {a k k' n : Nat} (hk : kd h a = k) (h9 : k < 99) : kd (alloc h k' n) a = k := by
  obtain ⟨ha, hk'⟩ := kd_at hk h9
  have e1 : zK (alloc h k' n) a = zK h a := va_up_ne _ _ (by omega)
  unfold kd
  rw [if_pos (show a < zN (alloc h k' n) from Nat.lt_succ_of_lt ha), e1]
  exact hk'
def WObj (own : String) (idx : Nat) : Prop := Cond.methodLink own idx Lib.objectInit ∈ gTbl ∧ Cond.instanceMethod Lib.objectInit ∈ gTbl ∧ Cond.code Lib.objectInit ⟨#[0xb1]⟩ 1 none ∈ gTbl
section VALL
variable {M : MI} {x : Cx} {d pc idx : Nat} {lv lv' : List (Nat × Value)} {st : List Value} {h : Hp} {bc bs : Nat}
theorem V_newQ {ci q : Nat} (hd : decode M.1 pc = .ok (.new idx, 3)) (F : NL M.2.2.1 idx ci) (hq : zN h = q) (kk : V M x d (pc + 3) lv (.ref q :: st) (alloc h ci 0) bc bs) : V M x d pc lv st h (bc + 1) (bs + (fk ci).length) := V_new hd F (hq ▸ kk)
theorem V_newIQ {n : Int32} {q : Nat} (hd : decode M.1 pc = .ok (.newarray .int, 2)) (hw : Cond.arrayClass .int ∈ gTbl) (hn : ¬ n < 0) (hB : n.toNatClampNeg ≤ 60000000) (hq : zN h = q) (kk : V M x d (pc + 2) lv (.ref q :: st) (alloc h 13 n.toNatClampNeg) bc bs) : V M x d pc lv (.int n :: st) h (bc + 1) (bs + n.toNatClampNeg) := V_newI hd hw hn hB (hq ▸ kk)
theorem V_newBQ {n : Int32} {q : Nat} (hd : decode M.1 pc = .ok (.newarray .byte, 2)) (hw : Cond.arrayClass .byte ∈ gTbl) (hn : ¬ n < 0) (hB : n.toNatClampNeg ≤ 60000000) (hq : zN h = q) (kk : V M x d (pc + 2) lv (.ref q :: st) (alloc h 12 n.toNatClampNeg) bc bs) : V M x d pc lv (.int n :: st) h (bc + 1) (bs + n.toNatClampNeg) := V_newB hd hw hn hB (hq ▸ kk)
theorem V_newZQ {n : Int32} {q : Nat} (hd : decode M.1 pc = .ok (.newarray .boolean, 2)) (hw : Cond.arrayClass .boolean ∈ gTbl) (hn : ¬ n < 0) (hB : n.toNatClampNeg ≤ 60000000) (hq : zN h = q) (kk : V M x d (pc + 2) lv (.ref q :: st) (alloc h 14 n.toNatClampNeg) bc bs) : V M x d pc lv (.int n :: st) h (bc + 1) (bs + n.toNatClampNeg) := V_newZ hd hw hn hB (hq ▸ kk)

theorem V_objI {a : Nat} (hd : decode M.1 pc = .ok (.invokespecial idx, 3)) (hw : WObj M.2.2.1 idx) (h9 : 1 ≤ d) (hs : (st.map fun v => v.category).sum ≤ 8) (kk : V M x d (pc + 3) lv st h bc bs) : V M x d pc lv (.ref a :: st) h bc bs := by
  obtain ⟨p, l, e, R, s, m, args, below, meth, c, D, cy, sk, A, n0, ad0, Q⟩ := x
  intro X hf hlc ad H locs ls cells slots hR hl ol os h1 h2
  refine W.objInit X.1 X.2.1 X.2.2.2.1 (X.2.2.2.2.1 _ hw.1) (X.2.2.2.2.1 _ hw.2.1) (X.2.2.2.2.1 _ hw.2.2) rfl (hl.1.trans X.2.2.1.symm) rfl hd (by omega) ?_ ?_
  · show 2 * 0 + ((st.map (tv sk ad)).map fun v => v.category).sum + 12 ≤ R.locals
    rw [cat_sum]
    omega
  · exact kk X hf hlc ad H locs ls cells slots hR hl ol os.2 h1 h2
theorem V_newW {n : Int32} {q : Nat} (hd : decode M.1 pc = .ok (.anewarray idx, 3)) (hw : Cond.classLink M.2.2.1 idx "PinInn$Wishes" ∈ gTbl) (hn : ¬ n < 0) (hB : n.toNatClampNeg ≤ 60000000) (hq : zN h = q) (kk : V M x d (pc + 3) lv (.ref q :: st) (alloc h 15 n.toNatClampNeg) bc bs) : V M x d pc lv (.int n :: st) h (bc + 1) (bs + n.toNatClampNeg) := by
  obtain ⟨p, l, e, R, s, m, args, below, meth, c, D, cy, sk, A, n0, ad0, Q⟩ := x
  intro X hf hlc ad H locs ls cells slots hR hl ol os h1 h2
  have hE : cE cy (15, n.toNatClampNeg) (fun _ => 0) (fun _ => none) (fun _ => 0) ad = .inl (cy 15, n.toNatClampNeg, .inr (.inr (.inr (.inr (fun _ => none))))) := cE_refs rfl
  refine va_newq (D := D) (N' := n.toNatClampNeg) X.1 X.2.1 X.2.2.2.1 (X.2.2.2.2.1 _ hw) X.2.2.2.2.2.2.2.2.1.2.2.2.2.2.2.2.1 X.2.2.2.2.2.1 hR.1 hR.2.1 hR.2.2.1 X.2.2.2.2.2.2.1 hn rfl (by omega) (by omega) (by omega) hd (fun q9 cA H1 hK1 hP1 hD1 hS1 => ?_)
  have ec : cA = cy 15 := cA_eq hK1 (i := 5) (j := 3) (ty := .object "PinInn$Wishes") rfl rfl
  subst ec
  subst hq
  have hP1 := (wl_alloc (cy := cy) (h := h) (ad := ad) (q := q9) (k := 15) (n := n.toNatClampNeg) (E := .inl (cy 15, n.toNatClampNeg, .inr (.inr (.inr (.inr (fun _ => none)))))) hR.2.2.2.1 hE) ▸ hP1
  have hD1 := (wl_alloc (cy := cy) (h := h) (ad := ad) (q := q9) (k := 15) (n := n.toNatClampNeg) (E := .inl (cy 15, n.toNatClampNeg, .inr (.inr (.inr (.inr (fun _ => none)))))) hR.2.2.2.1 hE) ▸ hD1
  have hl' : lv_has ls M.2.1 (tl sk (va_up ad (zN h) q9) lv) := by rw [tl_ext ad_up ol]; exact hl
  have e3 : (Value.ref q9 :: st.map (tv sk ad)) = (Value.ref (zN h) :: st).map (tv sk (va_up ad (zN h) q9)) := by
    rw [List.map_cons, st_ext ad_up os.2]
    simp [tv, va_up]
  rw [e3]
  exact kk X hf hlc (va_up ad (zN h) q9) H1 locs ls (cells + 1) (slots + n.toNatClampNeg) ⟨hP1, hD1, hS1, wf_alloc hR.2.2.2.1, Nat.le_succ_of_le hR.2.2.2.2.1, fun a ha => (ad_up a (Nat.lt_of_lt_of_le ha hR.2.2.2.2.1)).trans (hR.2.2.2.2.2 a ha)⟩ hl' (okl_mono (Nat.le_succ _) ol) ⟨Nat.lt_succ_self _, oks_mono (Nat.le_succ _) os.2⟩ (by omega) (by omega)
end VALL
def exN (k : Nat) : String := match k with
  | 0 => "java/lang/IllegalArgumentException"
  | 1 => "java/lang/UnsupportedOperationException"
  | 2 => "java/lang/IndexOutOfBoundsException"
  | _ => "java/util/NoSuchElementException"
def CtXC (cy : Nat → ClassId) (D : va_G) (h h' : Hp) (ad : Nat → Nat) (sz : Nat) (E : String) : String → State → State → Prop := fun E' st t =>
  E' = E ∧ ∃ ad' : Nat → Nat, (∀ a, a < zN h → ad' a = ad a) ∧ va_P D vwCl (wl cy h' ad') t.heap ∧ va_D (va_A (wl cy h ad) sz) (wl cy h' ad') ∧ va_F (va_A (wl cy h ad) sz) st t ∧ zN h ≤ zN h' ∧ wf h'
def CtX (l : Launch) (y : MethodName) (M : MI) (ret : Option FieldType) (d : Nat) (av : List Value) (h : Hp) (mc ms : Nat) (E : String) (h' : Hp) : Prop :=
  wf h → oks h av → ∀ (D : va_G) (cy : Nat → ClassId) (sk ad : Nat → Nat) (sz : Nat), vx_Met l y (.code y M.1 M.2.1 ret :: gTbl) (rmD d mc ms) (CtP cy D sk h ad sz av) (fun _ _ _ _ => False) (CtXC cy D h h' ad sz E) mc ms (va_A (wl cy h ad) sz)
def FinX (M : MI) (x : Cx) (E : String) (h' : Hp) : Prop := match x with
  | (_, l, _, R, s, _, args, below, meth, c, D, cy, sk, A, n0, ad0, Q) => l.stackTraces = false ∧ (∀ z ∈ c.exceptionTable.toList, False) ∧ ∃ (h0 : Hp) (sz : Nat), s.heap.size = sz ∧ n0 = zN h0 ∧ A = va_A (wl cy h0 ad0) sz ∧ Q = vx_MQ below (fun _ _ _ _ => False) (CtXC cy D h0 h' ad0 sz E) args s R.cells R.slots A
def FinO (M : MI) (x : Cx) (ret : Option FieldType) (r : Int32 ⊕ Nat) (h' : Hp) : Prop := match r with
  | .inl v => Fin9 M x ret (some (.int v)) h'
  | .inr k => FinX M x (exN k) h'
def FinU (M : MI) (x : Cx) (r : Unit ⊕ Nat) (h' : Hp) : Prop := match r with
  | .inl _ => Fin9 M x none none h'
  | .inr k => FinX M x (exN k) h'
def THN (own : String) (ik ic : Nat) : Prop := Cond.classLink own ik "java/util/NoSuchElementException" ∈ gTbl ∧ Cond.initialized "java/util/NoSuchElementException" ∈ gTbl ∧ (∀ w ∈ atN own ic, w ∈ lw_tbl ∧ (goodWord w || nW w) = true) ∧ (∀ w ∈ Cond.classLink own ik "java/util/NoSuchElementException" :: Cond.initialized "java/util/NoSuchElementException" :: atN own ic, vx_ot w = true)
def thN : List String := ["java/lang/RuntimeException", "java/lang/Exception"]
def TH (own : String) (ik ic : Nat) (E : String) : Prop := Bundle.fit E = true ∧ Cond.classLink own ik E ∈ gTbl ∧ Cond.initialized E ∈ gTbl ∧ (∀ w ∈ vx_atS own ic E thN, w ∈ lw_tbl ∧ (goodWord w || nW w) = true) ∧ (∀ w ∈ Cond.classLink own ik E :: Cond.initialized E :: vx_atS own ic E thN, vx_ot w = true)
theorem th_fit : ∀ n ∈ thN, Bundle.fit n = true := by decide +kernel
section VTHR
variable {M : MI} {x : Cx} {d pc : Nat} {lv : List (Nat × Value)} {st : List Value} {h : Hp}
theorem V_throw {ik is ic j : Nat} {E tx : String} (F : FinX M x E h) (T : TH M.2.2.1 ik ic E) (hj : kS[j]? = some (M.2.2.1, is, tx)) (h9 : 8 ≤ d) (hs : (st.map fun v => v.category).sum ≤ 8) (d0 : decode M.1 pc = .ok (.new ik, 3)) (d3 : decode M.1 (pc + 3) = .ok (.dup, 1)) (d4 : decode M.1 (pc + 4) = .ok (.ldc is, 2)) (d6 : decode M.1 (pc + 6) = .ok (.invokespecial ic, 3)) (d9 : decode M.1 (pc + 9) = .ok (.athrow, 1)) : V M x d pc lv st h 1 6 := by
  obtain ⟨p, l, e, R, s, m, args, below, meth, c, D, cy, sk, A, n0, ad0, Q⟩ := x
  intro X hf hlc ad H locs ls cells slots hR hl ol os h1 h2
  obtain ⟨hst, hex, h0, sz, e1, e2, e3, e5⟩ := F
  obtain ⟨t1, t2, t3, t4, t5⟩ := T
  subst e5
  have hSK := X.2.2.2.2.2.2.2.2.1
  refine vx_throwS (A := A) (names := thN) (mc := R.cells) (ms := R.slots) X.1 X.2.1 hst X.2.2.2.1 t1 th_fit (X.2.2.2.2.1 _ t2) (X.2.2.2.2.1 _ t3) (hSK.1 j _ hj) (fun w hw => ?_) t5 hSK.2.2.2.2.1 hSK.2.2.2.2.2.1 hR.2.2.1 (hl.1.trans X.2.2.1.symm) d0 d3 d4 d6 d9 (fun z hz => (hex z hz).elim) (by show 2 + 3 < _; omega) (by rw [cat_sum]; show _ + (13 * 3 + 43) ≤ _; omega) (by omega) (by omega) X.2.2.2.2.2.2.2.1 (fun t hal hz hq => ⟨rfl, ad, fun a ha => hR.2.2.2.2.2 a (by rw [e2]; exact ha), hR.1.kept (fun k q hk => hq q.1 (hR.1 k q hk).lt), e3 ▸ hR.2.1, e3 ▸ ⟨Nat.le_trans hR.2.2.1.1 hz, fun q g1 g2 => (hq q (Nat.lt_of_lt_of_le g1 hR.2.2.1.1)).trans (hR.2.2.1.2.1 q g1 g2)⟩, by rw [← e2]; exact hR.2.2.2.2.1, hR.2.2.2.1⟩) hR.2.2.1.2.2 (by omega) (by omega)
  obtain ⟨g1, g2⟩ := t4 w hw
  rcases Bool.or_eq_true _ _ ▸ g2 with g | g
  · exact X.2.2.2.2.1 _ (gMem g1 g)
  · exact va_Nw.use (nW_on g) (hSK.2.2.2.2.2.2.1 _ (nMem g1 g))
theorem V_throwW {ik is ic j : Nat} {E tx : String} (F : FinX M x E h) (T : TH M.2.2.1 ik ic E) (hj : kS[j]? = some (M.2.2.1, is, tx)) (h9 : 8 ≤ d) (hs : (st.map fun v => v.category).sum ≤ 8) (d0 : decode M.1 pc = .ok (.new ik, 3)) (d3 : decode M.1 (pc + 3) = .ok (.dup, 1)) (d4 : decode M.1 (pc + 4) = .ok (.ldc_w is, 3)) (d7 : decode M.1 (pc + 7) = .ok (.invokespecial ic, 3)) (d10 : decode M.1 (pc + 10) = .ok (.athrow, 1)) : V M x d pc lv st h 1 6 := by
  obtain ⟨p, l, e, R, s, m, args, below, meth, c, D, cy, sk, A, n0, ad0, Q⟩ := x
  intro X hf hlc ad H locs ls cells slots hR hl ol os h1 h2
  obtain ⟨hst, hex, h0, sz, e1, e2, e3, e5⟩ := F
  obtain ⟨t1, t2, t3, t4, t5⟩ := T
  subst e5
  have hSK := X.2.2.2.2.2.2.2.2.1
  refine vx_throwSW (A := A) (names := thN) (mc := R.cells) (ms := R.slots) X.1 X.2.1 hst X.2.2.2.1 t1 th_fit (X.2.2.2.2.1 _ t2) (X.2.2.2.2.1 _ t3) (hSK.1 j _ hj) (fun w hw => ?_) t5 hSK.2.2.2.2.1 hSK.2.2.2.2.2.1 hR.2.2.1 (hl.1.trans X.2.2.1.symm) d0 d3 d4 d7 d10 (fun z hz => (hex z hz).elim) (by show 2 + 3 < _; omega) (by rw [cat_sum]; show _ + (13 * 3 + 43) ≤ _; omega) (by omega) (by omega) X.2.2.2.2.2.2.2.1 (fun t hal hz hq => ⟨rfl, ad, fun a ha => hR.2.2.2.2.2 a (by rw [e2]; exact ha), hR.1.kept (fun k q hk => hq q.1 (hR.1 k q hk).lt), e3 ▸ hR.2.1, e3 ▸ ⟨Nat.le_trans hR.2.2.1.1 hz, fun q g1 g2 => (hq q (Nat.lt_of_lt_of_le g1 hR.2.2.1.1)).trans (hR.2.2.1.2.1 q g1 g2)⟩, by rw [← e2]; exact hR.2.2.2.2.1, hR.2.2.2.1⟩) hR.2.2.1.2.2 (by omega) (by omega)
  obtain ⟨g1, g2⟩ := t4 w hw
  rcases Bool.or_eq_true _ _ ▸ g2 with g | g
  · exact X.2.2.2.2.1 _ (gMem g1 g)
  · exact va_Nw.use (nW_on g) (hSK.2.2.2.2.2.2.1 _ (nMem g1 g))
theorem V_throwN {L ik is ic j : Nat} {tx : String} (F : FinX M x "java/util/NoSuchElementException" h) (T : THN M.2.2.1 ik ic) (hj : kS[j]? = some (M.2.2.1, is, tx)) (h9 : 8 ≤ d) (hs : (st.map fun v => v.category).sum ≤ 8) (d0 : decode M.1 pc = .ok (.new ik, 3)) (d3 : decode M.1 (pc + 3) = .ok (.dup, 1)) (d4 : decode M.1 (pc + 4) = .ok (.ldc is, 2) ∧ L = pc + 6 ∨ decode M.1 (pc + 4) = .ok (.ldc_w is, 3) ∧ L = pc + 7) (d6 : decode M.1 L = .ok (.invokespecial ic, 3)) (d9 : decode M.1 (L + 3) = .ok (.athrow, 1)) : V M x d pc lv st h 1 6 := by
  obtain ⟨p, l, e, R, s, m, args, below, meth, c, D, cy, sk, A, n0, ad0, Q⟩ := x
  intro X hf hlc ad H locs ls cells slots hR hl ol os h1 h2
  obtain ⟨hst, hex, h0, sz, e1, e2, e3, e5⟩ := F
  obtain ⟨t2, t3, t4, t5⟩ := T
  subst e5
  have hSK := X.2.2.2.2.2.2.2.2.1
  refine vx_throwN (A := A) (mc := R.cells) (ms := R.slots) X.1 X.2.1 hst X.2.2.2.1 (X.2.2.2.2.1 _ t2) (X.2.2.2.2.1 _ t3) (hSK.1 j _ hj) (fun w hw => ?_) t5 hSK.2.2.2.2.1 hSK.2.2.2.2.2.1 hR.2.2.1 (hl.1.trans X.2.2.1.symm) d0 d3 d4 d6 d9 (fun z hz => (hex z hz).elim) (by omega) (by rw [cat_sum]; omega) (by omega) (by omega) X.2.2.2.2.2.2.2.1 (fun t hal hz hq => ⟨rfl, ad, fun a ha => hR.2.2.2.2.2 a (by rw [e2]; exact ha), hR.1.kept (fun k q hk => hq q.1 (hR.1 k q hk).lt), e3 ▸ hR.2.1, e3 ▸ ⟨Nat.le_trans hR.2.2.1.1 hz, fun q g1 g2 => (hq q (Nat.lt_of_lt_of_le g1 hR.2.2.1.1)).trans (hR.2.2.1.2.1 q g1 g2)⟩, by rw [← e2]; exact hR.2.2.2.2.1, hR.2.2.2.1⟩) hR.2.2.1.2.2 (by omega) (by omega)
  obtain ⟨g1, g2⟩ := t4 w hw
  rcases Bool.or_eq_true _ _ ▸ g2 with g | g
  · exact X.2.2.2.2.1 _ (gMem g1 g)
  · exact va_Nw.use (nW_on g) (hSK.2.2.2.2.2.2.1 _ (nMem g1 g))
end VTHR
/-- a throwing contract out of a walk of its body -/
theorem CtX_of {l : Launch} (hst : l.stackTraces = false) {y : MethodName} {M : MI} {ret : Option FieldType} {d : Nat} {av : List Value} {h : Hp} {mc ms : Nat} {E : String} {h' : Hp} (hy : plainName y.cls = true) (ho : M.2.2.1 = y.cls) (hi : M.2.2.2 = true → y.name = "<init>") (hlen : (lg_sl av).length ≤ M.2.1)
    (hV : ∀ x : Cx, x.2.1 = l → FinX M x E h' → V M x d 0 (lv_args 0 av) [] h mc ms) : CtX l y M ret d av h mc ms E h' := by
  intro hw hoa D cy sk ad sz
  refine vx_ofW (cc := M.1) (maxL := M.2.1) (ret := ret) hy rfl ?_
  intro p e s m args below meth c s₁ B hml hex hv
  obtain ⟨rfl, hsz, hP, hK, hD0, hSK⟩ := hv
  subst hsz
  have hts := atoms_spec (ws := .code y M.1 M.2.1 ret :: gTbl) B.pre
  have hown : s.vm.findClass y.cls = some m.cls := findClass_of_methodNamed B.named
  have hin := (name_of_methodNamed B.named B.method).1
  have hl := lv_entry (av.map (tv sk ad)) (n := M.2.1) (by rw [lg_len]; exact hlen)
  rw [lg_entry_eq]
  rw [lv_args_tl] at hl
  have := hV (p, l, e, (headSpec (.code y M.1 M.2.1 ret :: gTbl) (rmD d mc ms)).room, s, m, (av.map (tv sk ad)).toArray, below, meth, c, D, cy, sk, va_A (wl cy h ad) s.heap.size, zN h, ad, vx_MQ below (fun _ _ _ _ => False) (CtXC cy D h h' ad s.heap.size E) (av.map (tv sk ad)).toArray s mc ms (va_A (wl cy h ad) s.heap.size)) rfl ⟨hst, hex, h, s.heap.size, rfl, rfl, rfl, rfl⟩
  exact this ⟨B.exec, B.bytes, hml, by rw [ho]; exact hown, fun w hw => hts w (List.mem_cons_of_mem _ hw), hK, fun q hq => Or.inr hq, B.notSynchronized, hSK, fun hM => by rw [hin]; exact hi hM⟩ (Nat.le_refl _) (Nat.le_refl _) ad s.heap [] _ 0 0 ⟨hP, hD0.self, va_S.rf, hw, Nat.le_refl _, fun _ _ => rfl⟩ hl (okl_args hoa) trivial (by show 0 + mc ≤ mc; omega) (by show 0 + ms ≤ ms; omega)
