/-! THE LAYER'S HEAP ROWS, CALLS, ENDS -/
theorem kd_at {h : Hp} {a k : Nat} (hk : kd h a = k) (h9 : k < 99) : a < zN h ∧ (zK h a).1 = k := by
  unfold kd at hk
  by_cases ha : a < zN h
  · rw [if_pos ha] at hk
    exact ⟨ha, hk⟩
  · rw [if_neg ha] at hk
    omega
theorem cE_obj {cy : Nat → ClassId} {K : Nat × Nat} {I : Nat → Int32} {Rr : Nat → Option Nat} {L : Nat → Int64} {ad : Nat → Nat} (h : K.1 < 12) : cE cy K I Rr L ad = .inr (K.1, fvs I Rr ad (fk K.1) 0) := if_pos h
theorem cE_prim {cy : Nat → ClassId} {K : Nat × Nat} {I : Nat → Int32} {Rr : Nat → Option Nat} {L : Nat → Int64} {ad : Nat → Nat} {k : Nat} (h : K.1 = k) (hk : k = 12 ∨ k = 13 ∨ k = 14) : cE cy K I Rr L ad = .inl (cy k, K.2, .inl I) := by
  subst h
  unfold cE
  rw [if_neg (by omega), if_neg (by omega), if_neg (by omega)]
theorem cE_refs {cy : Nat → ClassId} {K : Nat × Nat} {I : Nat → Int32} {Rr : Nat → Option Nat} {L : Nat → Int64} {ad : Nat → Nat} (h : K.1 = 15) : cE cy K I Rr L ad = .inl (cy 15, K.2, .inr (.inr (.inr (.inr (fun i => (Rr i).map ad))))) := by
  unfold cE
  rw [if_neg (by omega), if_pos h]
theorem cE_longs {cy : Nat → ClassId} {K : Nat × Nat} {I : Nat → Int32} {Rr : Nat → Option Nat} {L : Nat → Int64} {ad : Nat → Nat} (h : K.1 = 16) : cE cy K I Rr L ad = .inl (cy 16, K.2, .inr (.inl L)) := by
  unfold cE
  rw [if_neg (by omega), if_neg (by omega), if_pos h]
theorem wl_obj {cy : Nat → ClassId} {ad : Nat → Nat} {h : Hp} {a ci : Nat} (hk : kd h a = ci) (hc : ci < 12) : (wl cy h ad)[a]? = some (ad a, .inr (ci, fvs (zI h a) (zR h a) ad (fk ci) 0)) := by
  obtain ⟨ha, hk'⟩ := kd_at hk (by omega)
  rw [wl_get cy ad ha, cE_obj (by rw [hk']; exact hc), hk']
theorem wl_prim {cy : Nat → ClassId} {ad : Nat → Nat} {h : Hp} {a k : Nat} (hk : kd h a = k) (hc : k = 12 ∨ k = 13 ∨ k = 14) : (wl cy h ad)[a]? = some (ad a, .inl (cy k, zl h a, .inl (zI h a))) := by
  obtain ⟨ha, hk'⟩ := kd_at hk (by omega)
  rw [wl_get cy ad ha, cE_prim hk' hc]
  rfl
theorem wl_refs {cy : Nat → ClassId} {ad : Nat → Nat} {h : Hp} {a : Nat} (hk : kd h a = 15) : (wl cy h ad)[a]? = some (ad a, .inl (cy 15, zl h a, .inr (.inr (.inr (.inr (fun i => (zR h a i).map ad)))))) := by
  obtain ⟨ha, hk'⟩ := kd_at hk (by omega)
  rw [wl_get cy ad ha, cE_refs hk']
  rfl
theorem wl_longs {cy : Nat → ClassId} {ad : Nat → Nat} {h : Hp} {a : Nat} (hk : kd h a = 16) : (wl cy h ad)[a]? = some (ad a, .inl (cy 16, zl h a, .inr (.inl (zL h a)))) := by
  obtain ⟨ha, hk'⟩ := kd_at hk (by omega)
  rw [wl_get cy ad ha, cE_longs hk']
  rfl
theorem wl_setI_obj {cy : Nat → ClassId} {ad : Nat → Nat} {h : Hp} {a ci k : Nat} {v : Int32} (hk : kd h a = ci) (hc : ci < 12) (hb : (fk ci)[k]? = some false) : (wl cy h ad).set a (ad a, .inr (ci, (fvs (zI h a) (zR h a) ad (fk ci) 0).set k (.int v))) = wl cy (setI h a k v) ad := by
  obtain ⟨ha, hk'⟩ := kd_at hk (by omega)
  refine wl_set rfl (fun b hb => ⟨rfl, va_up_ne _ _ hb, rfl, rfl⟩) ?_
  have e1 : zI (setI h a k v) a = va_up (zI h a) k v := va_up_at _ _ _
  rw [e1, fvs_setI _ _ _ _ _ _ _ hb, Nat.zero_add]
  show cE cy (zK h a) _ (zR h a) (zL h a) ad = _
  rw [cE_obj (by rw [hk']; exact hc), hk']
theorem wl_setR_obj {cy : Nat → ClassId} {ad : Nat → Nat} {h : Hp} {a ci k : Nat} {v : Option Nat} (hk : kd h a = ci) (hc : ci < 12) (hb : (fk ci)[k]? = some true) : (wl cy h ad).set a (ad a, .inr (ci, (fvs (zI h a) (zR h a) ad (fk ci) 0).set k (va_rf (v.map ad)))) = wl cy (setR h a k v) ad := by
  obtain ⟨ha, hk'⟩ := kd_at hk (by omega)
  refine wl_set rfl (fun b hb => ⟨rfl, rfl, va_up_ne _ _ hb, rfl⟩) ?_
  have e1 : zR (setR h a k v) a = va_up (zR h a) k v := va_up_at _ _ _
  rw [e1, fvs_setR _ _ _ _ _ _ _ hb, Nat.zero_add]
  show cE cy (zK h a) (zI h a) _ (zL h a) ad = _
  rw [cE_obj (by rw [hk']; exact hc), hk']
theorem wl_setA_prim {cy : Nat → ClassId} {ad : Nat → Nat} {h : Hp} {a k : Nat} {f : Nat → Int32} (hk : kd h a = k) (hc : k = 12 ∨ k = 13 ∨ k = 14) : (wl cy h ad).set a (ad a, .inl (cy k, zl h a, .inl f)) = wl cy (setA h a f) ad := by
  obtain ⟨ha, hk'⟩ := kd_at hk (by omega)
  refine wl_set rfl (fun b hb => ⟨rfl, va_up_ne _ _ hb, rfl, rfl⟩) ?_
  have e1 : zI (setA h a f) a = f := va_up_at _ _ _
  rw [e1]
  show cE cy (zK h a) _ (zR h a) (zL h a) ad = _
  rw [cE_prim hk' hc]
  rfl
theorem setA_setI (h : Hp) (a k : Nat) (v : Int32) : setA h a (upd (zI h a) k v) = setI h a k v := rfl
theorem wl_setL_longs {cy : Nat → ClassId} {ad : Nat → Nat} {h : Hp} {a k : Nat} {v : Int64} (hk : kd h a = 16) : (wl cy h ad).set a (ad a, .inl (cy 16, zl h a, .inr (.inl (vp_updL (zL h a) k v)))) = wl cy (setL h a k v) ad := by
  obtain ⟨ha, hk'⟩ := kd_at hk (by omega)
  refine wl_set rfl (fun b hb => ⟨rfl, rfl, rfl, va_up_ne _ _ hb⟩) ?_
  have e1 : zL (setL h a k v) a = va_up (zL h a) k v := va_up_at _ _ _
  rw [e1]
  show cE cy (zK h a) (zI h a) (zR h a) _ ad = _
  rw [cE_longs hk']
  rfl
theorem wl_setR_refs {cy : Nat → ClassId} {ad : Nat → Nat} {h : Hp} {a k b : Nat} (hk : kd h a = 15) : (wl cy h ad).set a (ad a, .inl (cy 15, zl h a, .inr (.inr (.inr (.inr (va_up (fun i => (zR h a i).map ad) k (some (ad b)))))))) = wl cy (setR h a k (some b)) ad := by
  obtain ⟨ha, hk'⟩ := kd_at hk (by omega)
  refine wl_set rfl (fun b hb => ⟨rfl, rfl, va_up_ne _ _ hb, rfl⟩) ?_
  have e1 : zR (setR h a k (some b)) a = va_up (zR h a) k (some b) := va_up_at _ _ _
  rw [e1]
  show cE cy (zK h a) (zI h a) _ (zL h a) ad = _
  rw [cE_refs hk']
  have e2 : (fun i => (va_up (zR h a) k (some b) i).map ad) = va_up (fun i => (zR h a i).map ad) k (some (ad b)) := by
    funext i
    by_cases hi : i = k
    · subst hi
      simp [va_up]
    · simp [va_up, hi]
  rw [e2]
  rfl
theorem tv_ext {sk ad ad' : Nat → Nat} {h : Hp} {v : Value} (he : ∀ a, a < zN h → ad' a = ad a) (hv : okv h v) : tv sk ad' v = tv sk ad v := by
  cases v with
  | ref a => exact congrArg Value.ref (he a hv)
  | _ => rfl
theorem tl_ext {sk ad ad' : Nat → Nat} {h : Hp} {lv : List (Nat × Value)} (he : ∀ a, a < zN h → ad' a = ad a) (hv : okl h lv) : tl sk ad' lv = tl sk ad lv := by
  apply List.map_congr_left
  intro q hq
  rw [tv_ext he (hv q hq)]
theorem st_ext {sk ad ad' : Nat → Nat} {h : Hp} (he : ∀ a, a < zN h → ad' a = ad a) : ∀ {st : List Value}, oks h st → st.map (tv sk ad') = st.map (tv sk ad)
  | [], _ => rfl
  | v :: st, hv => by rw [List.map_cons, List.map_cons, tv_ext he hv.1, st_ext he hv.2]
theorem okv_mono {h h' : Hp} (hN : zN h ≤ zN h') {v : Value} (hv : okv h v) : okv h' v := by
  cases v with
  | ref a => exact Nat.lt_of_lt_of_le hv hN
  | _ => trivial
theorem okl_mono {h h' : Hp} (hN : zN h ≤ zN h') {lv : List (Nat × Value)} (hv : okl h lv) : okl h' lv := fun q hq => okv_mono hN (hv q hq)
theorem oks_mono {h h' : Hp} (hN : zN h ≤ zN h') : ∀ {st : List Value}, oks h st → oks h' st
  | [], _ => trivial
  | _ :: _, hv => ⟨okv_mono hN hv.1, oks_mono hN hv.2⟩
theorem ad_up {ad : Nat → Nat} {n q : Nat} : ∀ a, a < n → va_up ad n q a = ad a := fun a ha => va_up_ne _ _ (Nat.ne_of_lt ha)
def FL (own : String) (idx ci k : Nat) : Prop := ∃ (C : String) (T : u_T) (N : Nat) (ref : String), vwCl[ci]? = some (C, T, N) ∧ k < N ∧ (∀ w ∈ u_ws C T N, w ∈ gTbl) ∧ Cond.fieldLink own idx ref (T k).2.1 (T k).2.2.1 ∈ gTbl ∧ (ref = (T k).1 ∨ Cond.sameField ref (T k).1 (T k).2.1 (T k).2.2.1 ∈ gTbl)
def FP (own : String) (idx ci k : Nat) (ty : FieldType) (fin : Bool) : Prop := ∃ (C : String) (T : u_T) (N : Nat) (ref : String) (ty0 : Nat → FieldType), vwCl[ci]? = some (C, T, N) ∧ k < N ∧ (∀ w ∈ u_ws C T N, w ∈ gTbl) ∧ Cond.fieldLink own idx ref (T k).2.1 (T k).2.2.1 ∈ gTbl ∧ (ref = (T k).1 ∨ Cond.sameField ref (T k).1 (T k).2.1 (T k).2.2.1 ∈ gTbl) ∧ (∀ k, k < N → parseFieldDescriptor (T k).2.2.1 = some (ty0 k)) ∧ (∀ a, a < N → ∀ b, b < N → a ≠ b → (T a).2.1 ≠ (T b).2.1) ∧ (T k).2.2.2 = fin ∧ parseFieldDescriptor (T k).2.2.1 = some ty ∧ (fin = true → (T k).1 = own)
theorem FLs {args : Array Value} {s : State} {ref : String} {T : u_T} {k : Nat} (hts : ∀ w ∈ gTbl, w.before args s = true) (h : ref = (T k).1 ∨ Cond.sameField ref (T k).1 (T k).2.1 (T k).2.2.1 ∈ gTbl) : ∀ x, s.fieldFound? (T k).1 (T k).2.1 (T k).2.2.1 = some x → s.fieldFound? ref (T k).2.1 (T k).2.2.1 = some x := by
  intro x hx
  rcases h with h | h
  · rw [h]; exact hx
  · exact u_same (hts _ h) x hx
theorem fk_lt {ci k : Nat} {b : Bool} (hb : (fk ci)[k]? = some b) : k < (fk ci).length := (List.getElem?_eq_some_iff.mp hb).1
theorem vw_lt {ci : Nat} {q : vw_C} (hc : vwCl[ci]? = some q) : ci < 12 := (List.getElem?_eq_some_iff.mp hc).1
section VHEAP
variable {M : MI} {x : Cx} {d pc : Nat} {lv lv' : List (Nat × Value)} {st : List Value} {h : Hp} {bc bs : Nat}

theorem V_getI {idx ci k a : Nat} (hd : decode M.1 pc = .ok (.getfield idx, 3)) (F : FL M.2.2.1 idx ci k) (hb : (fk ci)[k]? = some false) (hk : kd h a = ci) (kk : V M x d (pc + 3) lv (.int (zI h a k) :: st) h bc bs) : V M x d pc lv (.ref a :: st) h bc bs := by
  obtain ⟨p, l, e, R, s, m, args, below, meth, c, D, cy, sk, A, n0, ad0, Q⟩ := x
  intro X hf hlc ad H locs ls cells slots hR hl ol os h1 h2
  obtain ⟨C, T, N, ref, hc, hkN, hin, hlk, hsm⟩ := F
  have hg := fvs_get (zI h a) (zR h a) ad (fk ci) 0 k false hb
  rw [Nat.zero_add] at hg
  exact va_get (D := D) X.1 X.2.1 X.2.2.2.2.1 hin X.2.2.2.1 X.2.2.2.2.2.1 hR.1 a (wl_obj hk (vw_lt hc)) hc k hkN (X.2.2.2.2.1 _ hlk) (FLs X.2.2.2.2.1 hsm) hg hd (kk X hf hlc ad H locs ls cells slots hR hl ol ⟨trivial, os.2⟩ h1 h2)
theorem V_getR {idx ci k a b : Nat} (hd : decode M.1 pc = .ok (.getfield idx, 3)) (F : FL M.2.2.1 idx ci k) (hb : (fk ci)[k]? = some true) (hk : kd h a = ci) (hz : zR h a k = some b) (kk : V M x d (pc + 3) lv (.ref b :: st) h bc bs) : V M x d pc lv (.ref a :: st) h bc bs := by
  obtain ⟨p, l, e, R, s, m, args, below, meth, c, D, cy, sk, A, n0, ad0, Q⟩ := x
  intro X hf hlc ad H locs ls cells slots hR hl ol os h1 h2
  obtain ⟨C, T, N, ref, hc, hkN, hin, hlk, hsm⟩ := F
  have hg := fvs_get (zI h a) (zR h a) ad (fk ci) 0 k true hb
  rw [Nat.zero_add, hz] at hg
  exact va_get (D := D) X.1 X.2.1 X.2.2.2.2.1 hin X.2.2.2.1 X.2.2.2.2.2.1 hR.1 a (wl_obj hk (vw_lt hc)) hc k hkN (X.2.2.2.2.1 _ hlk) (FLs X.2.2.2.2.1 hsm) hg hd (kk X hf hlc ad H locs ls cells slots hR hl ol ⟨hR.2.2.2.1 a k b (kd_at hk (by have := vw_lt hc; omega)).1 hz, os.2⟩ h1 h2)
theorem V_getRN {idx ci k a : Nat} (hd : decode M.1 pc = .ok (.getfield idx, 3)) (F : FL M.2.2.1 idx ci k) (hb : (fk ci)[k]? = some true) (hk : kd h a = ci) (hz : zR h a k = none) (kk : V M x d (pc + 3) lv (.null :: st) h bc bs) : V M x d pc lv (.ref a :: st) h bc bs := by
  obtain ⟨p, l, e, R, s, m, args, below, meth, c, D, cy, sk, A, n0, ad0, Q⟩ := x
  intro X hf hlc ad H locs ls cells slots hR hl ol os h1 h2
  obtain ⟨C, T, N, ref, hc, hkN, hin, hlk, hsm⟩ := F
  have hg := fvs_get (zI h a) (zR h a) ad (fk ci) 0 k true hb
  rw [Nat.zero_add, hz] at hg
  exact va_get (D := D) X.1 X.2.1 X.2.2.2.2.1 hin X.2.2.2.1 X.2.2.2.2.2.1 hR.1 a (wl_obj hk (vw_lt hc)) hc k hkN (X.2.2.2.2.1 _ hlk) (FLs X.2.2.2.2.1 hsm) hg hd (kk X hf hlc ad H locs ls cells slots hR hl ol ⟨trivial, os.2⟩ h1 h2)

theorem V_putI {idx ci k a : Nat} {v : Int32} (hd : decode M.1 pc = .ok (.putfield idx, 3)) (F : FP M.2.2.1 idx ci k .int false) (hb : (fk ci)[k]? = some false) (hk : kd h a = ci)  (kk : V M x d (pc + 3) lv st (setI h a k v) bc bs) : V M x d pc lv (.int v :: .ref a :: st) h bc bs := by
  obtain ⟨p, l, e, R, s, m, args, below, meth, c, D, cy, sk, A, n0, ad0, Q⟩ := x
  intro X hf hlc ad H locs ls cells slots hR hl ol os h1 h2
  obtain ⟨C, T, N, ref, ty0, hc, hkN, hin, hlk, hsm, hty, hnm, hfin, hpar, hown⟩ := F
  refine va_put (D := D) X.1 X.2.1 X.2.2.2.2.1 hin ty0 hty hnm X.2.2.2.1 X.2.2.2.2.2.1 hR.1 hR.2.1 hR.2.2.1 a (wl_obj hk (vw_lt hc)) hc k hkN (X.2.2.2.2.1 _ hlk) (FLs X.2.2.2.2.1 hsm) hfin  hpar rfl rfl (by rw [fvs_len]; exact fk_lt hb) hd (fun H1 locs1 hP1 hD1 hS1 => ?_)
  have e9 : (wl cy h ad).set a (ad a, .inr (ci, (fvs (zI h a) (zR h a) ad (fk ci) 0).set k (.int v))) = wl cy (setI h a k v) ad := wl_setI_obj hk (vw_lt hc) hb
  have hP1 : va_P D vwCl ((wl cy h ad).set a (ad a, .inr (ci, (fvs (zI h a) (zR h a) ad (fk ci) 0).set k (.int v)))) H1 := hP1
  have hD1 : va_D A ((wl cy h ad).set a (ad a, .inr (ci, (fvs (zI h a) (zR h a) ad (fk ci) 0).set k (.int v)))) := hD1
  rw [e9] at hP1 hD1
  exact kk X hf hlc ad H1 locs1 ls cells slots ⟨hP1, hD1, hS1, hR.2.2.2.1, hR.2.2.2.2⟩ hl ol os.2.2 h1 h2

theorem V_putZ {idx ci k a : Nat} {v : Int32} (hd : decode M.1 pc = .ok (.putfield idx, 3)) (F : FP M.2.2.1 idx ci k .boolean false) (hb : (fk ci)[k]? = some false) (hk : kd h a = ci) (hv : v = 0 ∨ v = 1) (kk : V M x d (pc + 3) lv st (setI h a k v) bc bs) : V M x d pc lv (.int v :: .ref a :: st) h bc bs := by
  obtain ⟨p, l, e, R, s, m, args, below, meth, c, D, cy, sk, A, n0, ad0, Q⟩ := x
  intro X hf hlc ad H locs ls cells slots hR hl ol os h1 h2
  obtain ⟨C, T, N, ref, ty0, hc, hkN, hin, hlk, hsm, hty, hnm, hfin, hpar, hown⟩ := F
  refine va_put (D := D) X.1 X.2.1 X.2.2.2.2.1 hin ty0 hty hnm X.2.2.2.1 X.2.2.2.2.2.1 hR.1 hR.2.1 hR.2.2.1 a (wl_obj hk (vw_lt hc)) hc k hkN (X.2.2.2.2.1 _ hlk) (FLs X.2.2.2.2.1 hsm) hfin  hpar (by rcases hv with rfl | rfl <;> rfl) (by rcases hv with rfl | rfl <;> rfl) (by rw [fvs_len]; exact fk_lt hb) hd (fun H1 locs1 hP1 hD1 hS1 => ?_)
  have e9 : (wl cy h ad).set a (ad a, .inr (ci, (fvs (zI h a) (zR h a) ad (fk ci) 0).set k (.int v))) = wl cy (setI h a k v) ad := wl_setI_obj hk (vw_lt hc) hb
  have hP1 : va_P D vwCl ((wl cy h ad).set a (ad a, .inr (ci, (fvs (zI h a) (zR h a) ad (fk ci) 0).set k (.int v)))) H1 := hP1
  have hD1 : va_D A ((wl cy h ad).set a (ad a, .inr (ci, (fvs (zI h a) (zR h a) ad (fk ci) 0).set k (.int v)))) := hD1
  rw [e9] at hP1 hD1
  exact kk X hf hlc ad H1 locs1 ls cells slots ⟨hP1, hD1, hS1, hR.2.2.2.1, hR.2.2.2.2⟩ hl ol os.2.2 h1 h2

theorem V_putR {idx ci k a : Nat} {b : Nat} {ty : FieldType} (hd : decode M.1 pc = .ok (.putfield idx, 3)) (F : FP M.2.2.1 idx ci k ty false) (hb : (fk ci)[k]? = some true) (hk : kd h a = ci) (hn : ∀ q : Nat, narrow ty (.ref q) = .ref q ∧ fits ty (.ref q) = true) (kk : V M x d (pc + 3) lv st (setR h a k (some b)) bc bs) : V M x d pc lv (.ref b :: .ref a :: st) h bc bs := by
  obtain ⟨p, l, e, R, s, m, args, below, meth, c, D, cy, sk, A, n0, ad0, Q⟩ := x
  intro X hf hlc ad H locs ls cells slots hR hl ol os h1 h2
  obtain ⟨C, T, N, ref, ty0, hc, hkN, hin, hlk, hsm, hty, hnm, hfin, hpar, hown⟩ := F
  refine va_put (D := D) X.1 X.2.1 X.2.2.2.2.1 hin ty0 hty hnm X.2.2.2.1 X.2.2.2.2.2.1 hR.1 hR.2.1 hR.2.2.1 a (wl_obj hk (vw_lt hc)) hc k hkN (X.2.2.2.2.1 _ hlk) (FLs X.2.2.2.2.1 hsm) hfin  hpar (hn (ad b)).1 (hn (ad b)).2 (by rw [fvs_len]; exact fk_lt hb) hd (fun H1 locs1 hP1 hD1 hS1 => ?_)
  have e9 : (wl cy h ad).set a (ad a, .inr (ci, (fvs (zI h a) (zR h a) ad (fk ci) 0).set k (.ref (ad b)))) = wl cy (setR h a k (some b)) ad := wl_setR_obj (v := some b) hk (vw_lt hc) hb
  have hP1 : va_P D vwCl ((wl cy h ad).set a (ad a, .inr (ci, (fvs (zI h a) (zR h a) ad (fk ci) 0).set k (.ref (ad b))))) H1 := hP1
  have hD1 : va_D A ((wl cy h ad).set a (ad a, .inr (ci, (fvs (zI h a) (zR h a) ad (fk ci) 0).set k (.ref (ad b))))) := hD1
  rw [e9] at hP1 hD1
  exact kk X hf hlc ad H1 locs1 ls cells slots ⟨hP1, hD1, hS1, (wf_setR hR.2.2.2.1 (fun b9 e9 => by cases e9; exact os.1)), hR.2.2.2.2⟩ hl ol os.2.2 h1 h2

theorem V_putRF {idx ci k a : Nat} {b : Nat} {ty : FieldType} (hd : decode M.1 pc = .ok (.putfield idx, 3)) (F : FP M.2.2.1 idx ci k ty true) (hb : (fk ci)[k]? = some true) (hk : kd h a = ci) (hn : ∀ q : Nat, narrow ty (.ref q) = .ref q ∧ fits ty (.ref q) = true) (hI : M.2.2.2 = true) (kk : V M x d (pc + 3) lv st (setR h a k (some b)) bc bs) : V M x d pc lv (.ref b :: .ref a :: st) h bc bs := by
  obtain ⟨p, l, e, R, s, m, args, below, meth, c, D, cy, sk, A, n0, ad0, Q⟩ := x
  intro X hf hlc ad H locs ls cells slots hR hl ol os h1 h2
  obtain ⟨C, T, N, ref, ty0, hc, hkN, hin, hlk, hsm, hty, hnm, hfin, hpar, hown⟩ := F
  refine va_putF (D := D) X.1 X.2.1 X.2.2.2.2.1 hin ty0 hty hnm X.2.2.2.1 X.2.2.2.2.2.1 hR.1 hR.2.1 hR.2.2.1 a (wl_obj hk (vw_lt hc)) hc k hkN (X.2.2.2.2.1 _ hlk) (FLs X.2.2.2.2.1 hsm) hfin (X.2.2.2.2.2.2.2.2.2 hI) (hown rfl) hpar (hn (ad b)).1 (hn (ad b)).2 (by rw [fvs_len]; exact fk_lt hb) hd (fun H1 locs1 hP1 hD1 hS1 => ?_)
  have e9 : (wl cy h ad).set a (ad a, .inr (ci, (fvs (zI h a) (zR h a) ad (fk ci) 0).set k (.ref (ad b)))) = wl cy (setR h a k (some b)) ad := wl_setR_obj (v := some b) hk (vw_lt hc) hb
  have hP1 : va_P D vwCl ((wl cy h ad).set a (ad a, .inr (ci, (fvs (zI h a) (zR h a) ad (fk ci) 0).set k (.ref (ad b))))) H1 := hP1
  have hD1 : va_D A ((wl cy h ad).set a (ad a, .inr (ci, (fvs (zI h a) (zR h a) ad (fk ci) 0).set k (.ref (ad b))))) := hD1
  rw [e9] at hP1 hD1
  exact kk X hf hlc ad H1 locs1 ls cells slots ⟨hP1, hD1, hS1, (wf_setR hR.2.2.2.1 (fun b9 e9 => by cases e9; exact os.1)), hR.2.2.2.2⟩ hl ol os.2.2 h1 h2

theorem V_putRN {idx ci k a : Nat} {ty : FieldType} (hd : decode M.1 pc = .ok (.putfield idx, 3)) (F : FP M.2.2.1 idx ci k ty false) (hb : (fk ci)[k]? = some true) (hk : kd h a = ci) (hn : narrow ty .null = .null ∧ fits ty .null = true) (kk : V M x d (pc + 3) lv st (setR h a k none) bc bs) : V M x d pc lv (.null :: .ref a :: st) h bc bs := by
  obtain ⟨p, l, e, R, s, m, args, below, meth, c, D, cy, sk, A, n0, ad0, Q⟩ := x
  intro X hf hlc ad H locs ls cells slots hR hl ol os h1 h2
  obtain ⟨C, T, N, ref, ty0, hc, hkN, hin, hlk, hsm, hty, hnm, hfin, hpar, hown⟩ := F
  refine va_put (D := D) X.1 X.2.1 X.2.2.2.2.1 hin ty0 hty hnm X.2.2.2.1 X.2.2.2.2.2.1 hR.1 hR.2.1 hR.2.2.1 a (wl_obj hk (vw_lt hc)) hc k hkN (X.2.2.2.2.1 _ hlk) (FLs X.2.2.2.2.1 hsm) hfin  hpar hn.1 hn.2 (by rw [fvs_len]; exact fk_lt hb) hd (fun H1 locs1 hP1 hD1 hS1 => ?_)
  have e9 : (wl cy h ad).set a (ad a, .inr (ci, (fvs (zI h a) (zR h a) ad (fk ci) 0).set k .null)) = wl cy (setR h a k none) ad := wl_setR_obj (v := none) hk (vw_lt hc) hb
  have hP1 : va_P D vwCl ((wl cy h ad).set a (ad a, .inr (ci, (fvs (zI h a) (zR h a) ad (fk ci) 0).set k .null))) H1 := hP1
  have hD1 : va_D A ((wl cy h ad).set a (ad a, .inr (ci, (fvs (zI h a) (zR h a) ad (fk ci) 0).set k .null))) := hD1
  rw [e9] at hP1 hD1
  exact kk X hf hlc ad H1 locs1 ls cells slots ⟨hP1, hD1, hS1, (wf_setR hR.2.2.2.1 (fun b9 e9 => by cases e9)), hR.2.2.2.2⟩ hl ol os.2.2 h1 h2

theorem V_iald {a : Nat} {i : Int32} (hd : decode M.1 pc = .ok (.iaload, 1)) (hk : kd h a = 13) (hin : vp_in i (zl h a)) (kk : V M x d (pc + 1) lv (.int (zI h a i.toNatClampNeg) :: st) h bc bs) : V M x d pc lv (.int i :: .ref a :: st) h bc bs := by
  obtain ⟨p, l, e, R, s, m, args, below, meth, c, D, cy, sk, A, n0, ad0, Q⟩ := x
  intro X hf hlc ad H locs ls cells slots hR hl ol os h1 h2
  exact va_iald (D := D) X.1 X.2.1 X.2.2.2.2.2.1 hR.1 a 1 (wl_prim hk (by omega)) rfl hin hd (kk X hf hlc ad H locs ls cells slots hR hl ol ⟨trivial, os.2.2⟩ h1 h2)

theorem V_bald {a : Nat} {i : Int32} (hd : decode M.1 pc = .ok (.baload, 1)) (hk : kd h a = 12) (hin : vp_in i (zl h a)) (kk : V M x d (pc + 1) lv (.int (zI h a i.toNatClampNeg) :: st) h bc bs) : V M x d pc lv (.int i :: .ref a :: st) h bc bs := by
  obtain ⟨p, l, e, R, s, m, args, below, meth, c, D, cy, sk, A, n0, ad0, Q⟩ := x
  intro X hf hlc ad H locs ls cells slots hR hl ol os h1 h2
  exact va_bald (D := D) X.1 X.2.1 X.2.2.2.2.2.1 hR.1 a 0 (wl_prim hk (by omega)) rfl hin hd (kk X hf hlc ad H locs ls cells slots hR hl ol ⟨trivial, os.2.2⟩ h1 h2)

theorem V_zald {a : Nat} {i : Int32} (hd : decode M.1 pc = .ok (.baload, 1)) (hk : kd h a = 14) (hin : vp_in i (zl h a)) (kk : V M x d (pc + 1) lv (.int (zI h a i.toNatClampNeg) :: st) h bc bs) : V M x d pc lv (.int i :: .ref a :: st) h bc bs := by
  obtain ⟨p, l, e, R, s, m, args, below, meth, c, D, cy, sk, A, n0, ad0, Q⟩ := x
  intro X hf hlc ad H locs ls cells slots hR hl ol os h1 h2
  exact va_zald (D := D) X.1 X.2.1 X.2.2.2.2.2.1 hR.1 a 2 (wl_prim hk (by omega)) rfl hin hd (kk X hf hlc ad H locs ls cells slots hR hl ol ⟨trivial, os.2.2⟩ h1 h2)

theorem V_iast {a : Nat} {i v : Int32} (hd : decode M.1 pc = .ok (.iastore, 1)) (hk : kd h a = 13) (hin : vp_in i (zl h a)) (kk : V M x d (pc + 1) lv st (setI h a i.toNatClampNeg v) bc bs) : V M x d pc lv (.int v :: .int i :: .ref a :: st) h bc bs := by
  obtain ⟨p, l, e, R, s, m, args, below, meth, c, D, cy, sk, A, n0, ad0, Q⟩ := x
  intro X hf hlc ad H locs ls cells slots hR hl ol os h1 h2
  refine va_iast (D := D) X.1 X.2.1 X.2.2.2.2.2.1 hR.1 hR.2.1 hR.2.2.1 a 1 (wl_prim hk (by omega)) rfl hin hd (fun H1 locs1 hP1 hD1 hS1 => ?_)
  rw [wl_setA_prim hk (by omega), setA_setI] at hP1 hD1
  exact kk X hf hlc ad H1 locs1 ls cells slots ⟨hP1, hD1, hS1, hR.2.2.2.1, hR.2.2.2.2⟩ hl ol os.2.2.2 h1 h2

theorem V_bast {a : Nat} {i v : Int32} (hd : decode M.1 pc = .ok (.bastore, 1)) (hk : kd h a = 12) (hin : vp_in i (zl h a)) (kk : V M x d (pc + 1) lv st (setI h a i.toNatClampNeg (vp_nar .byte v)) bc bs) : V M x d pc lv (.int v :: .int i :: .ref a :: st) h bc bs := by
  obtain ⟨p, l, e, R, s, m, args, below, meth, c, D, cy, sk, A, n0, ad0, Q⟩ := x
  intro X hf hlc ad H locs ls cells slots hR hl ol os h1 h2
  refine va_bast (D := D) X.1 X.2.1 X.2.2.2.2.2.1 hR.1 hR.2.1 hR.2.2.1 a 0 (wl_prim hk (by omega)) rfl hin hd (fun H1 locs1 hP1 hD1 hS1 => ?_)
  rw [wl_setA_prim hk (by omega), setA_setI] at hP1 hD1
  exact kk X hf hlc ad H1 locs1 ls cells slots ⟨hP1, hD1, hS1, hR.2.2.2.1, hR.2.2.2.2⟩ hl ol os.2.2.2 h1 h2

theorem V_zast {a : Nat} {i v : Int32} (hd : decode M.1 pc = .ok (.bastore, 1)) (hk : kd h a = 14) (hin : vp_in i (zl h a)) (kk : V M x d (pc + 1) lv st (setI h a i.toNatClampNeg (vp_nar .boolean v)) bc bs) : V M x d pc lv (.int v :: .int i :: .ref a :: st) h bc bs := by
  obtain ⟨p, l, e, R, s, m, args, below, meth, c, D, cy, sk, A, n0, ad0, Q⟩ := x
  intro X hf hlc ad H locs ls cells slots hR hl ol os h1 h2
  refine va_zast (D := D) X.1 X.2.1 X.2.2.2.2.2.1 hR.1 hR.2.1 hR.2.2.1 a 2 (wl_prim hk (by omega)) rfl hin hd (fun H1 locs1 hP1 hD1 hS1 => ?_)
  rw [wl_setA_prim hk (by omega), setA_setI] at hP1 hD1
  exact kk X hf hlc ad H1 locs1 ls cells slots ⟨hP1, hD1, hS1, hR.2.2.2.1, hR.2.2.2.2⟩ hl ol os.2.2.2 h1 h2

theorem V_lald {a : Nat} {i : Int32} (hd : decode M.1 pc = .ok (.laload, 1)) (hk : kd h a = 16) (hin : vp_in i (zl h a)) (kk : V M x d (pc + 1) lv (.long (zL h a i.toNatClampNeg) :: st) h bc bs) : V M x d pc lv (.int i :: .ref a :: st) h bc bs := by
  obtain ⟨p, l, e, R, s, m, args, below, meth, c, D, cy, sk, A, n0, ad0, Q⟩ := x
  intro X hf hlc ad H locs ls cells slots hR hl ol os h1 h2
  exact va_lald (D := D) X.1 X.2.1 X.2.2.2.2.2.1 hR.1 a 4 (wl_longs hk) rfl hin hd (kk X hf hlc ad H locs ls cells slots hR hl ol ⟨trivial, os.2.2⟩ h1 h2)
theorem V_last {a : Nat} {i : Int32} {v : Int64} (hd : decode M.1 pc = .ok (.lastore, 1)) (hk : kd h a = 16) (hin : vp_in i (zl h a)) (kk : V M x d (pc + 1) lv st (setL h a i.toNatClampNeg v) bc bs) : V M x d pc lv (.long v :: .int i :: .ref a :: st) h bc bs := by
  obtain ⟨p, l, e, R, s, m, args, below, meth, c, D, cy, sk, A, n0, ad0, Q⟩ := x
  intro X hf hlc ad H locs ls cells slots hR hl ol os h1 h2
  refine va_last (D := D) X.1 X.2.1 X.2.2.2.2.2.1 hR.1 hR.2.1 hR.2.2.1 a 4 (wl_longs hk) rfl hin hd (fun H1 locs1 hP1 hD1 hS1 => ?_)
  rw [wl_setL_longs hk] at hP1 hD1
  exact kk X hf hlc ad H1 locs1 ls cells slots ⟨hP1, hD1, hS1, hR.2.2.2.1, hR.2.2.2.2⟩ hl ol os.2.2.2 h1 h2
theorem V_aald {a b : Nat} {i : Int32} (hd : decode M.1 pc = .ok (.aaload, 1)) (hk : kd h a = 15) (hin : vp_in i (zl h a)) (hz : zR h a i.toNatClampNeg = some b) (kk : V M x d (pc + 1) lv (.ref b :: st) h bc bs) : V M x d pc lv (.int i :: .ref a :: st) h bc bs := by
  obtain ⟨p, l, e, R, s, m, args, below, meth, c, D, cy, sk, A, n0, ad0, Q⟩ := x
  intro X hf hlc ad H locs ls cells slots hR hl ol os h1 h2
  refine va_aldq (D := D) X.1 X.2.1 X.2.2.2.2.2.1 hR.1 a 3 (wl_refs hk) rfl hin hd ?_
  rw [hz]
  exact kk X hf hlc ad H locs ls cells slots hR hl ol ⟨hR.2.2.2.1 a _ b (kd_at hk (by omega)).1 hz, os.2.2⟩ h1 h2
theorem V_aast {a b : Nat} {i : Int32} (hd : decode M.1 pc = .ok (.aastore, 1)) (hk : kd h a = 15) (hkb : kd h b = 9) (hin : vp_in i (zl h a)) (kk : V M x d (pc + 1) lv st (setR h a i.toNatClampNeg (some b)) bc bs) : V M x d pc lv (.ref b :: .int i :: .ref a :: st) h bc bs := by
  obtain ⟨p, l, e, R, s, m, args, below, meth, c, D, cy, sk, A, n0, ad0, Q⟩ := x
  intro X hf hlc ad H locs ls cells slots hR hl ol os h1 h2
  refine va_astq (D := D) X.1 X.2.1 X.2.2.2.2.2.1 hR.1 hR.2.1 hR.2.2.1 a 3 b 9 (wl_refs hk) rfl (wl_obj hkb (by omega)) rfl hin hd (fun H1 locs1 hP1 hD1 hS1 => ?_)
  rw [wl_setR_refs hk] at hP1 hD1
  exact kk X hf hlc ad H1 locs1 ls cells slots ⟨hP1, hD1, hS1, wf_setR hR.2.2.2.1 (fun b9 e9 => by cases e9; exact os.1), hR.2.2.2.2⟩ hl ol os.2.2.2 h1 h2
theorem V_alen {a k : Nat} (hd : decode M.1 pc = .ok (.arraylength, 1)) (hk : kd h a = k) (hc : k = 12 ∨ k = 13 ∨ k = 14) (kk : V M x d (pc + 1) lv (.int (Int32.ofNat (zl h a)) :: st) h bc bs) : V M x d pc lv (.ref a :: st) h bc bs := by
  obtain ⟨p, l, e, R, s, m, args, below, meth, c, D, cy, sk, A, n0, ad0, Q⟩ := x
  intro X hf hlc ad H locs ls cells slots hR hl ol os h1 h2
  obtain ⟨t0, ty, ht⟩ : ∃ t0 ty, (tys cy)[t0]? = some (cy k, ty) := by
    rcases hc with rfl | rfl | rfl
    · exact ⟨0, _, rfl⟩
    · exact ⟨1, _, rfl⟩
    · exact ⟨2, _, rfl⟩
  exact va_alen (D := D) X.1 X.2.1 X.2.2.2.2.2.1 hR.1 a t0 (wl_prim hk hc) ht rfl hd (kk X hf hlc ad H locs ls cells slots hR hl ol ⟨trivial, os.2⟩ h1 h2)

/-- one array class for a type -/
theorem cA_eq {D : va_G} {cl : List vw_C} {tys' : List (ClassId × FieldType)} {s : State} {c1 c2 : ClassId} {ty : FieldType} (h : va_K D cl tys' s) {i j : Nat} (h1 : tys'[i]? = some (c1, ty)) (h2 : tys'[j]? = some (c2, ty)) : c1 = c2 := by
  have a1 := (h.2 i _ h1).2
  have a2 := (h.2 j _ h2).2
  cases ty with
  | object C =>
    obtain ⟨_, _, _, _, _, b1⟩ := a1
    obtain ⟨_, _, _, _, _, b2⟩ := a2
    exact Option.some.inj (b1.symm.trans b2)
  | _ =>
    have b1 : s.vm.findClass _ = some c1 := a1
    have b2 : s.vm.findClass _ = some c2 := a2
    exact Option.some.inj (b1.symm.trans b2)
def NL (own : String) (idx ci : Nat) : Prop := ∃ (C : String) (T : u_T) (N : Nat) (ty : Nat → FieldType), vwCl[ci]? = some (C, T, N) ∧ (∀ w ∈ u_ws C T N, w ∈ gTbl) ∧ (∀ k, k < N → parseFieldDescriptor (T k).2.2.1 = some (ty k)) ∧ Cond.classLink own idx C ∈ gTbl ∧ Cond.instantiable C N ∈ gTbl ∧ Cond.initialized C ∈ gTbl ∧ N = (fk ci).length ∧ ∀ j, j < N → defaultValue (ty j) = vp_V (fvs (fun _ => 0) (fun _ => none) (fun _ => 0) (fk ci) 0) j

theorem V_new {idx ci : Nat} (hd : decode M.1 pc = .ok (.new idx, 3)) (F : NL M.2.2.1 idx ci) (kk : V M x d (pc + 3) lv (.ref (zN h) :: st) (alloc h ci 0) bc bs) : V M x d pc lv st h (bc + 1) (bs + (fk ci).length) := by
  obtain ⟨p, l, e, R, s, m, args, below, meth, c, D, cy, sk, A, n0, ad0, Q⟩ := x
  intro X hf hlc ad H locs ls cells slots hR hl ol os h1 h2
  obtain ⟨C, T, N, ty, hc, hin, hty, hcl, hins, hini, hN, hdef⟩ := F
  have hci := vw_lt hc
  have hE : cE cy (ci, 0) (fun _ => 0) (fun _ => none) (fun _ => 0) ad = .inr (ci, fvs (fun _ => 0) (fun _ => none) (fun _ => 0) (fk ci) 0) := by
    rw [cE_obj hci, fvs_congr (I := fun _ => 0) (I' := fun _ => 0) (Rr := fun _ => none) (Rr' := fun _ => none) (ad := ad) (ad' := fun _ => 0) (fk ci) 0 (fun _ _ => rfl) (fun _ _ => rfl)]
  subst hN
  refine va_new (D := D) X.1 X.2.1 X.2.2.2.2.1 hin ty hty X.2.2.2.1 (X.2.2.2.2.1 _ hcl) (X.2.2.2.2.1 _ hins) (X.2.2.2.2.1 _ hini) X.2.2.2.2.2.1 hR.1 hR.2.1 hR.2.2.1 X.2.2.2.2.2.2.1 hc hdef (by omega) (by omega) hd (fun q H1 hP1 hD1 hS1 => ?_)
  have hP1 := (wl_alloc (cy := cy) (h := h) (ad := ad) (q := q) (k := ci) (n := 0) (E := .inr (ci, fvs (fun _ => 0) (fun _ => none) (fun _ => 0) (fk ci) 0)) hR.2.2.2.1 hE) ▸ hP1
  have hD1 := (wl_alloc (cy := cy) (h := h) (ad := ad) (q := q) (k := ci) (n := 0) (E := .inr (ci, fvs (fun _ => 0) (fun _ => none) (fun _ => 0) (fk ci) 0)) hR.2.2.2.1 hE) ▸ hD1
  have hl' : lv_has ls M.2.1 (tl sk (va_up ad (zN h) q) lv) := by rw [tl_ext ad_up ol]; exact hl
  have e3 : (Value.ref q :: st.map (tv sk ad)) = (Value.ref (zN h) :: st).map (tv sk (va_up ad (zN h) q)) := by
    rw [List.map_cons, st_ext ad_up os]
    simp [tv, va_up]
  rw [e3]
  exact kk X hf hlc (va_up ad (zN h) q) H1 locs ls (cells + 1) (slots + (fk ci).length) ⟨hP1, hD1, hS1, wf_alloc hR.2.2.2.1, Nat.le_succ_of_le hR.2.2.2.2.1, fun a ha => (ad_up a (Nat.lt_of_lt_of_le ha hR.2.2.2.2.1)).trans (hR.2.2.2.2.2 a ha)⟩ hl' (okl_mono (Nat.le_succ _) ol) ⟨Nat.lt_succ_self _, oks_mono (Nat.le_succ _) os⟩ (by omega) (by omega)

theorem V_newI {n : Int32} (hd : decode M.1 pc = .ok (.newarray .int, 2)) (hw : Cond.arrayClass .int ∈ gTbl) (hn : ¬ n < 0) (hB : n.toNatClampNeg ≤ 60000000) (kk : V M x d (pc + 2) lv (.ref (zN h) :: st) (alloc h 13 n.toNatClampNeg) bc bs) : V M x d pc lv (.int n :: st) h (bc + 1) (bs + n.toNatClampNeg) := by
  obtain ⟨p, l, e, R, s, m, args, below, meth, c, D, cy, sk, A, n0, ad0, Q⟩ := x
  intro X hf hlc ad H locs ls cells slots hR hl ol os h1 h2
  have hE : cE cy (13, n.toNatClampNeg) (fun _ => 0) (fun _ => none) (fun _ => 0) ad = .inl (cy 13, n.toNatClampNeg, .inl (fun _ => 0)) := cE_prim rfl (by omega)
  refine va_newa (D := D) (atype := .int) (ty := .int) (N' := n.toNatClampNeg) (a0 := (n.toNatClampNeg, .inl (fun _ => 0))) X.1 X.2.1 (X.2.2.2.2.1 _ hw) rfl X.2.2.2.2.2.1 hR.1 hR.2.1 hR.2.2.1 X.2.2.2.2.2.2.1 (fun cA => rfl) hn rfl (by simp only [componentBytes]; omega) (by omega) (by omega) hd (fun q cA H1 hK1 hP1 hD1 hS1 => ?_)
  have ec : cA = cy 13 := cA_eq hK1 (i := 5) (j := 1) (ty := .int) rfl rfl
  subst ec
  have hP1 := (wl_alloc (cy := cy) (h := h) (ad := ad) (q := q) (k := 13) (n := n.toNatClampNeg) (E := .inl (cy 13, n.toNatClampNeg, .inl (fun _ => 0))) hR.2.2.2.1 hE) ▸ hP1
  have hD1 := (wl_alloc (cy := cy) (h := h) (ad := ad) (q := q) (k := 13) (n := n.toNatClampNeg) (E := .inl (cy 13, n.toNatClampNeg, .inl (fun _ => 0))) hR.2.2.2.1 hE) ▸ hD1
  have hl' : lv_has ls M.2.1 (tl sk (va_up ad (zN h) q) lv) := by rw [tl_ext ad_up ol]; exact hl
  have e3 : (Value.ref q :: st.map (tv sk ad)) = (Value.ref (zN h) :: st).map (tv sk (va_up ad (zN h) q)) := by
    rw [List.map_cons, st_ext ad_up os.2]
    simp [tv, va_up]
  rw [e3]
  exact kk X hf hlc (va_up ad (zN h) q) H1 locs ls (cells + 1) (slots + n.toNatClampNeg) ⟨hP1, hD1, hS1, wf_alloc hR.2.2.2.1, Nat.le_succ_of_le hR.2.2.2.2.1, fun a ha => (ad_up a (Nat.lt_of_lt_of_le ha hR.2.2.2.2.1)).trans (hR.2.2.2.2.2 a ha)⟩ hl' (okl_mono (Nat.le_succ _) ol) ⟨Nat.lt_succ_self _, oks_mono (Nat.le_succ _) os.2⟩ (by omega) (by omega)

theorem V_newB {n : Int32} (hd : decode M.1 pc = .ok (.newarray .byte, 2)) (hw : Cond.arrayClass .byte ∈ gTbl) (hn : ¬ n < 0) (hB : n.toNatClampNeg ≤ 60000000) (kk : V M x d (pc + 2) lv (.ref (zN h) :: st) (alloc h 12 n.toNatClampNeg) bc bs) : V M x d pc lv (.int n :: st) h (bc + 1) (bs + n.toNatClampNeg) := by
  obtain ⟨p, l, e, R, s, m, args, below, meth, c, D, cy, sk, A, n0, ad0, Q⟩ := x
  intro X hf hlc ad H locs ls cells slots hR hl ol os h1 h2
  have hE : cE cy (12, n.toNatClampNeg) (fun _ => 0) (fun _ => none) (fun _ => 0) ad = .inl (cy 12, n.toNatClampNeg, .inl (fun _ => 0)) := cE_prim rfl (by omega)
  refine va_newa (D := D) (atype := .byte) (ty := .byte) (N' := n.toNatClampNeg) (a0 := (n.toNatClampNeg, .inl (fun _ => 0))) X.1 X.2.1 (X.2.2.2.2.1 _ hw) rfl X.2.2.2.2.2.1 hR.1 hR.2.1 hR.2.2.1 X.2.2.2.2.2.2.1 (fun cA => rfl) hn rfl (by simp only [componentBytes]; omega) (by omega) (by omega) hd (fun q cA H1 hK1 hP1 hD1 hS1 => ?_)
  have ec : cA = cy 12 := cA_eq hK1 (i := 5) (j := 0) (ty := .byte) rfl rfl
  subst ec
  have hP1 := (wl_alloc (cy := cy) (h := h) (ad := ad) (q := q) (k := 12) (n := n.toNatClampNeg) (E := .inl (cy 12, n.toNatClampNeg, .inl (fun _ => 0))) hR.2.2.2.1 hE) ▸ hP1
  have hD1 := (wl_alloc (cy := cy) (h := h) (ad := ad) (q := q) (k := 12) (n := n.toNatClampNeg) (E := .inl (cy 12, n.toNatClampNeg, .inl (fun _ => 0))) hR.2.2.2.1 hE) ▸ hD1
  have hl' : lv_has ls M.2.1 (tl sk (va_up ad (zN h) q) lv) := by rw [tl_ext ad_up ol]; exact hl
  have e3 : (Value.ref q :: st.map (tv sk ad)) = (Value.ref (zN h) :: st).map (tv sk (va_up ad (zN h) q)) := by
    rw [List.map_cons, st_ext ad_up os.2]
    simp [tv, va_up]
  rw [e3]
  exact kk X hf hlc (va_up ad (zN h) q) H1 locs ls (cells + 1) (slots + n.toNatClampNeg) ⟨hP1, hD1, hS1, wf_alloc hR.2.2.2.1, Nat.le_succ_of_le hR.2.2.2.2.1, fun a ha => (ad_up a (Nat.lt_of_lt_of_le ha hR.2.2.2.2.1)).trans (hR.2.2.2.2.2 a ha)⟩ hl' (okl_mono (Nat.le_succ _) ol) ⟨Nat.lt_succ_self _, oks_mono (Nat.le_succ _) os.2⟩ (by omega) (by omega)

theorem V_newZ {n : Int32} (hd : decode M.1 pc = .ok (.newarray .boolean, 2)) (hw : Cond.arrayClass .boolean ∈ gTbl) (hn : ¬ n < 0) (hB : n.toNatClampNeg ≤ 60000000) (kk : V M x d (pc + 2) lv (.ref (zN h) :: st) (alloc h 14 n.toNatClampNeg) bc bs) : V M x d pc lv (.int n :: st) h (bc + 1) (bs + n.toNatClampNeg) := by
  obtain ⟨p, l, e, R, s, m, args, below, meth, c, D, cy, sk, A, n0, ad0, Q⟩ := x
  intro X hf hlc ad H locs ls cells slots hR hl ol os h1 h2
  have hE : cE cy (14, n.toNatClampNeg) (fun _ => 0) (fun _ => none) (fun _ => 0) ad = .inl (cy 14, n.toNatClampNeg, .inl (fun _ => 0)) := cE_prim rfl (by omega)
  refine va_newa (D := D) (atype := .boolean) (ty := .boolean) (N' := n.toNatClampNeg) (a0 := (n.toNatClampNeg, .inl (fun _ => 0))) X.1 X.2.1 (X.2.2.2.2.1 _ hw) rfl X.2.2.2.2.2.1 hR.1 hR.2.1 hR.2.2.1 X.2.2.2.2.2.2.1 (fun cA => rfl) hn rfl (by simp only [componentBytes]; omega) (by omega) (by omega) hd (fun q cA H1 hK1 hP1 hD1 hS1 => ?_)
  have ec : cA = cy 14 := cA_eq hK1 (i := 5) (j := 2) (ty := .boolean) rfl rfl
  subst ec
  have hP1 := (wl_alloc (cy := cy) (h := h) (ad := ad) (q := q) (k := 14) (n := n.toNatClampNeg) (E := .inl (cy 14, n.toNatClampNeg, .inl (fun _ => 0))) hR.2.2.2.1 hE) ▸ hP1
  have hD1 := (wl_alloc (cy := cy) (h := h) (ad := ad) (q := q) (k := 14) (n := n.toNatClampNeg) (E := .inl (cy 14, n.toNatClampNeg, .inl (fun _ => 0))) hR.2.2.2.1 hE) ▸ hD1
  have hl' : lv_has ls M.2.1 (tl sk (va_up ad (zN h) q) lv) := by rw [tl_ext ad_up ol]; exact hl
  have e3 : (Value.ref q :: st.map (tv sk ad)) = (Value.ref (zN h) :: st).map (tv sk (va_up ad (zN h) q)) := by
    rw [List.map_cons, st_ext ad_up os.2]
    simp [tv, va_up]
  rw [e3]
  exact kk X hf hlc (va_up ad (zN h) q) H1 locs ls (cells + 1) (slots + n.toNatClampNeg) ⟨hP1, hD1, hS1, wf_alloc hR.2.2.2.1, Nat.le_succ_of_le hR.2.2.2.2.1, fun a ha => (ad_up a (Nat.lt_of_lt_of_le ha hR.2.2.2.2.1)).trans (hR.2.2.2.2.2 a ha)⟩ hl' (okl_mono (Nat.le_succ _) ol) ⟨Nat.lt_succ_self _, oks_mono (Nat.le_succ _) os.2⟩ (by omega) (by omega)

theorem V_newL {n : Int32} (hd : decode M.1 pc = .ok (.newarray .long, 2)) (hw : Cond.arrayClass .long ∈ gTbl) (hn : ¬ n < 0) (hB : n.toNatClampNeg ≤ 60000000) (kk : V M x d (pc + 2) lv (.ref (zN h) :: st) (alloc h 16 n.toNatClampNeg) bc bs) : V M x d pc lv (.int n :: st) h (bc + 1) (bs + n.toNatClampNeg) := by
  obtain ⟨p, l, e, R, s, m, args, below, meth, c, D, cy, sk, A, n0, ad0, Q⟩ := x
  intro X hf hlc ad H locs ls cells slots hR hl ol os h1 h2
  have hE : cE cy (16, n.toNatClampNeg) (fun _ => 0) (fun _ => none) (fun _ => 0) ad = .inl (cy 16, n.toNatClampNeg, .inr (.inl (fun _ => 0))) := cE_longs rfl
  refine va_newa (D := D) (atype := .long) (ty := .long) (N' := n.toNatClampNeg) (a0 := (n.toNatClampNeg, .inr (.inl (fun _ => 0)))) X.1 X.2.1 (X.2.2.2.2.1 _ hw) rfl X.2.2.2.2.2.1 hR.1 hR.2.1 hR.2.2.1 X.2.2.2.2.2.2.1 (fun cA => rfl) hn rfl (by simp only [componentBytes]; omega) (by omega) (by omega) hd (fun q cA H1 hK1 hP1 hD1 hS1 => ?_)
  have ec : cA = cy 16 := cA_eq hK1 (i := 5) (j := 4) (ty := .long) rfl rfl
  subst ec
  have hP1 := (wl_alloc (cy := cy) (h := h) (ad := ad) (q := q) (k := 16) (n := n.toNatClampNeg) (E := .inl (cy 16, n.toNatClampNeg, .inr (.inl (fun _ => 0)))) hR.2.2.2.1 hE) ▸ hP1
  have hD1 := (wl_alloc (cy := cy) (h := h) (ad := ad) (q := q) (k := 16) (n := n.toNatClampNeg) (E := .inl (cy 16, n.toNatClampNeg, .inr (.inl (fun _ => 0)))) hR.2.2.2.1 hE) ▸ hD1
  have hl' : lv_has ls M.2.1 (tl sk (va_up ad (zN h) q) lv) := by rw [tl_ext ad_up ol]; exact hl
  have e3 : (Value.ref q :: st.map (tv sk ad)) = (Value.ref (zN h) :: st).map (tv sk (va_up ad (zN h) q)) := by
    rw [List.map_cons, st_ext ad_up os.2]
    simp [tv, va_up]
  rw [e3]
  exact kk X hf hlc (va_up ad (zN h) q) H1 locs ls (cells + 1) (slots + n.toNatClampNeg) ⟨hP1, hD1, hS1, wf_alloc hR.2.2.2.1, Nat.le_succ_of_le hR.2.2.2.2.1, fun a ha => (ad_up a (Nat.lt_of_lt_of_le ha hR.2.2.2.2.1)).trans (hR.2.2.2.2.2 a ha)⟩ hl' (okl_mono (Nat.le_succ _) ol) ⟨Nat.lt_succ_self _, oks_mono (Nat.le_succ _) os.2⟩ (by omega) (by omega)

end VHEAP
