/-! CONTRACTS: from the heap h a call with av ends with the answer r, in the heap h', with mc cells and ms slots made at most -/
def rmD (d mc ms : Nat) : Room := { frames := d, cells := mc, slots := ms, locals := 64 * d }
def CtP (cy : Nat → ClassId) (D : va_G) (sk : Nat → Nat) (h : Hp) (ad : Nat → Nat) (sz : Nat) (av : List Value) : Array Value → State → Prop := va_Pc (av.map (tv sk ad)) (fun U => U.heap.size = sz ∧ va_P D vwCl (wl cy h ad) U.heap ∧ va_K D vwCl (tys cy) U ∧ va_D (fun _ => True) (wl cy h ad) ∧ SKo sk (va_A (wl cy h ad) sz) U U.heap)
def CtQ (cy : Nat → ClassId) (D : va_G) (sk : Nat → Nat) (h h' : Hp) (ad : Nat → Nat) (sz : Nat) (r : Option Value) : Array Value → State → Outcome → State → Prop := fun _ st oc t =>
  ∃ ad' : Nat → Nat, (∀ a, a < zN h → ad' a = ad a) ∧ oc = .returned (r.map (tv sk ad')) ∧ va_P D vwCl (wl cy h' ad') t.heap ∧ va_D (va_A (wl cy h ad) sz) (wl cy h' ad') ∧ va_F (va_A (wl cy h ad) sz) st t ∧ zN h ≤ zN h' ∧ wf h' ∧ ∀ v, r = some v → okv h' v
def Ct (l : Launch) (y : MethodName) (M : MI) (ret : Option FieldType) (d : Nat) (av : List Value) (h : Hp) (mc ms : Nat) (r : Option Value) (h' : Hp) : Prop :=
  wf h → oks h av → ∀ (D : va_G) (cy : Nat → ClassId) (sk ad : Nat → Nat) (sz : Nat), Met l y (.code y M.1 M.2.1 ret :: gTbl) (rmD d mc ms) (CtP cy D sk h ad sz av) (CtQ cy D sk h h' ad sz r) mc ms (va_A (wl cy h ad) sz)
theorem CtP_blind {cy : Nat → ClassId} {D : va_G} {sk : Nat → Nat} {h : Hp} {ad : Nat → Nat} {sz : Nat} {av : List Value} : FrameBlind (CtP cy D sk h ad sz av) := by
  intro a U g mk q
  obtain ⟨q0, q1, qP, qK, qD, qS⟩ := q
  exact ⟨q0, q1, qP, va_K.moved (u := U) (U := U.calling g mk a) (Vm.Alike.refl U.vm) qK, qD, qS.frame⟩
theorem gIn {ws : List Cond} (h : ∀ w ∈ ws, w ∈ gTbl) : GoodIn gTbl ws := fun w hw => ⟨h w hw, good_of_word (gGood (h w hw))⟩
theorem va_A_sub {cy : Nat → ClassId} {h : Hp} {ad : Nat → Nat} {A : Nat → Prop} {H0 H : Heap} {locs : List Loc} (hD : va_D A (wl cy h ad)) (hS : va_S A H0 H locs) (hA : ∀ q, H0.size ≤ q → A q) : ∀ q, va_A (wl cy h ad) H.size q → A q := by
  intro q hq
  rcases hq with ⟨k, e, hk⟩ | hq
  · exact hD.2 k _ hk
  · exact hA q (Nat.le_trans hS.1 hq)
theorem oks_toList {h : Hp} {r : Option Value} {st : List Value} (hr : ∀ v, r = some v → okv h v) (hs : oks h st) : oks h (r.toList ++ st) := by
  cases r with
  | none => exact hs
  | some v => exact ⟨hr v rfl, hs⟩
/-- behind a call -/
theorem V_after {M : MI} {d pc : Nat} {lv : List (Nat × Value)} {st : List Value} {h h' : Hp} {bc bs mc ms : Nat} {r : Option Value} {a9 : Array Value} {st0 : List Value}
    {p : Program} {l : Launch} {e : Env} {R : Room} {s : State} {m : MethodId} {args : Array Value} {below : List Frame} {meth : Method} {c : Code} {D : va_G} {cy : Nat → ClassId} {sk : Nat → Nat} {A : Nat → Prop} {n0 : Nat} {ad0 : Nat → Nat} {Q : State → Prop} {ad : Nat → Nat} {H : Heap} {locs : List Loc} {ls : Array Slot} {cells slots : Nat}
    (X : CxOk M (p, l, e, R, s, m, args, below, meth, c, D, cy, sk, A, n0, ad0, Q)) (hf : d ≤ R.frames) (hlc : 64 * d ≤ R.locals) (hR : Rl cy D A n0 ad0 s.heap h ad H locs) (hl : lv_has ls M.2.1 (tl sk ad lv)) (ol : okl h lv) (os : oks h st) (h1 : cells + (bc + mc) ≤ R.cells) (h2 : slots + (bs + ms) ≤ R.slots)
    (hr : va_Run p l e R s m args below meth c H locs cells slots mc ms (F0 m pc ls st0) (st.map (tv sk ad)) (CtQ cy D sk h h' ad H.size r a9) (va_A (wl cy h ad) H.size))
    (kk : V M (p, l, e, R, s, m, args, below, meth, c, D, cy, sk, A, n0, ad0, Q) d (pc + 3) lv (r.toList ++ st) h' bc bs) : W p l e R s m args below meth c H locs cells slots Q (F0 m pc ls st0) := by
  have hsub := va_A_sub hR.2.1 hR.2.2.1 X.2.2.2.2.2.2.1
  intro T hT XS
  obtain ⟨v, st₀, t, T', L, e0, X', hL, e1, e2, hq, go⟩ := hr T hT XS
  obtain ⟨ad', hx, ho, hP', hD', hF', hN', hw', hov⟩ := hq
  have hv : v = r.map (tv sk ad') := by cases ho; rfl
  subst hv
  obtain ⟨g1, g2, g3⟩ := vx_keep e0 e1 hR.2.2.1 (fun q _ hq => hsub q hq) (fun q hq => hsub q hq) hL hF'
  have hl' : lv_has ls M.2.1 (tl sk ad' lv) := by rw [tl_ext hx ol]; exact hl
  obtain ⟨t2, s2, q2⟩ := kk X hf hlc ad' T'.heap (locs ++ L) ls (cells + mc) (slots + ms) ⟨by rw [e1]; exact hP', hD'.weaken (fun _ _ _ hq => hsub _ hq), g3, hw', Nat.le_trans hR.2.2.2.2.1 hN', fun a ha => (hx a (Nat.lt_of_lt_of_le ha hR.2.2.2.2.1)).trans (hR.2.2.2.2.2 a ha)⟩ hl' (okl_mono hN' ol) (oks_toList hov (oks_mono hN' os)) (by omega) (by omega) T' rfl X'
  refine ⟨t2, go t2 ?_, q2⟩
  have e3 : (r.map (tv sk ad')).toList ++ st.map (tv sk ad) = (r.toList ++ st).map (tv sk ad') := by
    rw [List.map_append, st_ext hx os]
    cases r <;> rfl
  rw [e3]
  exact s2
def MLV (own : String) (idx : Nat) (y : MethodName) (M : MI) (ret : Option FieldType) (n : Nat) : Prop := Cond.methodLink own idx y ∈ gTbl ∧ Cond.instanceMethod y ∈ gTbl ∧ Cond.selects y.cls y y ∈ gTbl ∧ Cond.initialized y.cls ∈ gTbl ∧ Cond.code y M.1 M.2.1 ret ∈ gTbl ∧ (y.cls ≠ "java/lang/invoke/MethodHandle" ∧ y.cls ≠ "java/lang/invoke/VarHandle" ∧ (parseMethodDescriptor y.desc).map (fun d => d.parameters.length) = some n) ∧ M.2.1 ≤ 45
def MLS (own : String) (idx : Nat) (y : MethodName) (M : MI) (ret : Option FieldType) (n : Nat) : Prop := Cond.methodLink own idx y ∈ gTbl ∧ Cond.static y ∈ gTbl ∧ Cond.initialized own ∈ gTbl ∧ Cond.code y M.1 M.2.1 ret ∈ gTbl ∧ (y.cls = own ∧ y.cls ≠ "java/lang/invoke/MethodHandle" ∧ y.cls ≠ "java/lang/invoke/VarHandle" ∧ (parseMethodDescriptor y.desc).map (fun d => d.parameters.length) = some n) ∧ M.2.1 ≤ 45
def MLI (own : String) (idx : Nat) (y : MethodName) (M : MI) (n : Nat) : Prop := (Cond.methodLink own idx y ∈ gTbl ∨ ∃ host, Cond.methodLinkNest own idx y host ∈ nTbl) ∧ Cond.instanceMethod y ∈ gTbl ∧ Cond.initialized y.cls ∈ gTbl ∧ Cond.code y M.1 M.2.1 none ∈ gTbl ∧ y.name = "<init>" ∧ (y.cls ≠ "java/lang/invoke/MethodHandle" ∧ y.cls ≠ "java/lang/invoke/VarHandle" ∧ (parseMethodDescriptor y.desc).map (fun d => d.parameters.length) = some n) ∧ M.2.1 ≤ 45
theorem stk_eq {sk ad : Nat → Nat} {stk As st : List Value} {a : Nat} (h : stk = As.reverse ++ .ref a :: st) : stk.map (tv sk ad) = (As.map (tv sk ad)).reverse ++ Value.ref (ad a) :: st.map (tv sk ad) := by
  rw [h, List.map_append, List.map_reverse, List.map_cons]
  rfl
theorem stk_eqS {sk ad : Nat → Nat} {stk As st : List Value} (h : stk = As.reverse ++ st) : stk.map (tv sk ad) = (As.map (tv sk ad)).reverse ++ st.map (tv sk ad) := by
  rw [h, List.map_append, List.map_reverse]
theorem cat_sum {sk ad : Nat → Nat} : ∀ {st : List Value} , ((st.map (tv sk ad)).map fun v => v.category).sum = (st.map fun v => v.category).sum
  | [] => rfl
  | v :: st => by simp only [List.map_cons, List.sum_cons]; rw [tv_cat, cat_sum (st := st)]
theorem oks_append {h : Hp} : ∀ {a b : List Value}, oks h (a ++ b) → oks h a ∧ oks h b
  | [], _, q => ⟨trivial, q⟩
  | _ :: a, _, q => ⟨⟨q.1, (oks_append (a := a) q.2).1⟩, (oks_append (a := a) q.2).2⟩
theorem oks_app {h : Hp} : ∀ {a b : List Value}, oks h a → oks h b → oks h (a ++ b)
  | [], _, _, q => q
  | _ :: _, _, p, q => ⟨p.1, oks_app p.2 q⟩
theorem oks_rev {h : Hp} : ∀ {a : List Value}, oks h a.reverse → oks h a
  | [], _ => trivial
  | v :: a, q => by
    rw [List.reverse_cons] at q
    obtain ⟨q1, q2⟩ := oks_append q
    exact ⟨q2.1, oks_rev q1⟩
section VCALL
variable {M M' : MI} {x : Cx} {d d' pc idx n : Nat} {lv : List (Nat × Value)} {st stk As : List Value} {h h' : Hp} {bc bs mc ms : Nat} {r : Option Value} {y : MethodName} {ret : Option FieldType}

theorem V_callV {a ci : Nat} {T : u_T} {N : Nat} (hd : decode M.1 pc = .ok (.invokevirtual idx, 3)) (hm : MLV M.2.2.1 idx y M' ret n) (hc : vwCl[ci]? = some (y.cls, T, N)) (hk : kd h a = ci) (hst : stk = As.reverse ++ .ref a :: st) (hn : As.length = n) (hw : (st.map fun v => v.category).sum ≤ 8) (hdd : d' < d) (hC : Ct x.2.1 y M' ret d' (.ref a :: As) h mc ms r h') (kk : V M x d (pc + 3) lv (r.toList ++ st) h' bc bs) : V M x d pc lv stk h (bc + mc) (bs + ms) := by
  obtain ⟨p, l, e, R, s, m, args, below, meth, c, D, cy, sk, A, n0, ad0, Q⟩ := x
  intro X hf hlc ad H locs ls cells slots hR hl ol os h1 h2
  obtain ⟨m1, m2, m3, m4, m5, m6, m7⟩ := hm
  rw [hst] at os
  obtain ⟨o1, o2⟩ := oks_append os
  have hM := hC hR.2.2.2.1 ⟨o2.1, oks_rev o1⟩ D cy sk ad H.size
  refine V_after (a9 := (Value.ref (ad a) :: As.map (tv sk ad)).toArray) X hf hlc hR hl ol o2.2 h1 h2 ?_ kk
  exact va_runV ⟨X.1, X.2.1, X.2.2.1, X.2.2.2.1, X.2.2.2.2.1⟩ hM (cwV n X.2.2.2.2.1 (gIn (fun w hw => by
      rcases List.mem_append.mp hw with hw | hw
      · rcases List.mem_cons.mp hw with rfl | hw
        · exact m1
        · rcases List.mem_cons.mp hw with rfl | hw
          · exact m2
          · rcases List.mem_cons.mp hw with rfl | hw
            · exact m3
            · rcases List.mem_cons.mp hw with rfl | hw
              · exact m4
              · cases hw
      · rcases List.mem_cons.mp hw with rfl | hw
        · exact m5
        · exact hw)) rfl rfl rfl ⟨rfl, m6⟩ ⟨by show d' + 1 ≤ _; omega, by show 8 + (M'.2.1 + 11) + 64 * d' ≤ _; omega⟩)
    ⟨CtP_blind, va_recv X.2.2.2.2.2.1 hR.1 hc (wl_obj hk (vw_lt hc)), fun U hU hW => ⟨rfl, by rw [hU], by rw [hU]; exact hR.1, va_K.moved hW.alike X.2.2.2.2.2.1, hR.2.1.weaken (fun _ _ _ _ => trivial), X.2.2.2.2.2.2.2.2.1.call hR.2.2.1 hU hW (va_A_sub hR.2.1 hR.2.2.1 X.2.2.2.2.2.2.1)⟩⟩ rfl (by rw [List.length_map]; exact hn) hl.1 (stk_eq hst) (lv_room (by rw [cat_sum]; exact hw)) hd ⟨by omega, by omega⟩
theorem V_callS (hd : decode M.1 pc = .ok (.invokestatic idx, 3)) (hm : MLS M.2.2.1 idx y M' ret n) (hst : stk = As.reverse ++ st) (hn : As.length = n) (hw : (st.map fun v => v.category).sum ≤ 8) (hdd : d' < d) (hC : Ct x.2.1 y M' ret d' As h mc ms r h') (kk : V M x d (pc + 3) lv (r.toList ++ st) h' bc bs) : V M x d pc lv stk h (bc + mc) (bs + ms) := by
  obtain ⟨p, l, e, R, s, m, args, below, meth, c, D, cy, sk, A, n0, ad0, Q⟩ := x
  intro X hf hlc ad H locs ls cells slots hR hl ol os h1 h2
  obtain ⟨m1, m2, m4, m5, m6, m7⟩ := hm
  rw [hst] at os
  obtain ⟨o1, o2⟩ := oks_append os
  have hM := hC hR.2.2.2.1 (oks_rev o1) D cy sk ad H.size
  refine V_after (a9 := (As.map (tv sk ad)).toArray) X hf hlc hR hl ol o2 h1 h2 ?_ kk
  exact va_runS ⟨X.1, X.2.1, X.2.2.1, X.2.2.2.1, X.2.2.2.2.1⟩ hM (cwS n X.2.2.2.2.1 (gIn (fun w hw => by
      rcases List.mem_append.mp hw with hw | hw
      · rcases List.mem_cons.mp hw with rfl | hw
        · exact m1
        · rcases List.mem_cons.mp hw with rfl | hw
          · exact m2
          · rcases List.mem_cons.mp hw with rfl | hw
            · exact m4
            · cases hw
      · rcases List.mem_cons.mp hw with rfl | hw
        · exact m5
        · exact hw)) rfl rfl rfl m6 ⟨by show d' + 1 ≤ _; omega, by show 8 + (M'.2.1 + 11) + 64 * d' ≤ _; omega⟩)
    ⟨CtP_blind, fun U hU hW => ⟨rfl, by rw [hU], by rw [hU]; exact hR.1, va_K.moved hW.alike X.2.2.2.2.2.1, hR.2.1.weaken (fun _ _ _ _ => trivial), X.2.2.2.2.2.2.2.2.1.call hR.2.2.1 hU hW (va_A_sub hR.2.1 hR.2.2.1 X.2.2.2.2.2.2.1)⟩⟩ rfl (by rw [List.length_map]; exact hn) hl.1 (stk_eqS hst) (lv_room (by rw [cat_sum]; exact hw)) hd ⟨by omega, by omega⟩
theorem V_callI {a : Nat} (hd : decode M.1 pc = .ok (.invokespecial idx, 3)) (hm : MLI M.2.2.1 idx y M' n) (hst : stk = As.reverse ++ .ref a :: st) (hn : As.length = n) (hw : (st.map fun v => v.category).sum ≤ 8) (hdd : d' < d) (hC : Ct x.2.1 y M' none d' (.ref a :: As) h mc ms none h') (kk : V M x d (pc + 3) lv st h' bc bs) : V M x d pc lv stk h (bc + mc) (bs + ms) := by
  obtain ⟨p, l, e, R, s, m, args, below, meth, c, D, cy, sk, A, n0, ad0, Q⟩ := x
  intro X hf hlc ad H locs ls cells slots hR hl ol os h1 h2
  obtain ⟨m1, m2, m4, m5, m8, m6, m7⟩ := hm
  rw [hst] at os
  obtain ⟨o1, o2⟩ := oks_append os
  have hM := hC hR.2.2.2.1 ⟨o2.1, oks_rev o1⟩ D cy sk ad H.size
  have hG : GoodIn gTbl (.code y M'.1 M'.2.1 none :: gTbl) := gIn (fun w hw => by
      rcases List.mem_cons.mp hw with rfl | hw
      · exact m5
      · exact hw)
  refine V_after (r := none) (a9 := (Value.ref (ad a) :: As.map (tv sk ad)).toArray) X hf hlc hR hl ol o2.2 h1 h2 ?_ kk
  rcases m1 with m1 | ⟨host, m1⟩
  · exact va_runI ⟨X.1, X.2.1, X.2.2.1, X.2.2.2.1, X.2.2.2.2.1⟩ hM (cwI n X.2.2.2.2.1 hG rfl rfl rfl (X.2.2.2.2.1 _ m4) (X.2.2.2.2.1 _ m1) (X.2.2.2.2.1 _ m2) m8 m6 ⟨by show d' + 1 ≤ _; omega, by show 8 + (M'.2.1 + 11) + 64 * d' ≤ _; omega⟩)
      ⟨CtP_blind, fun U hU hW => ⟨rfl, by rw [hU], by rw [hU]; exact hR.1, va_K.moved hW.alike X.2.2.2.2.2.1, hR.2.1.weaken (fun _ _ _ _ => trivial), X.2.2.2.2.2.2.2.2.1.call hR.2.2.1 hU hW (va_A_sub hR.2.1 hR.2.2.1 X.2.2.2.2.2.2.1)⟩⟩ rfl (by rw [List.length_map]; exact hn) hl.1 (stk_eq hst) (lv_room (by rw [cat_sum]; exact hw)) hd ⟨by omega, by omega⟩
  · exact va_runIN ⟨X.1, X.2.1, X.2.2.1, X.2.2.2.1, X.2.2.2.2.1⟩ hM ⟨va_cnB n X.2.2.2.2.1 hG rfl rfl rfl (X.2.2.2.2.2.2.2.2.1.2.2.2.2.2.2.1 _ m1) (X.2.2.2.2.1 _ m4) m6 ⟨by show d' + 1 ≤ _; omega, by show 8 + (M'.2.1 + 11) + 64 * d' ≤ _; omega⟩, m8, X.2.2.2.2.1 _ m2⟩
      ⟨CtP_blind, fun U hU hW => ⟨rfl, by rw [hU], by rw [hU]; exact hR.1, va_K.moved hW.alike X.2.2.2.2.2.1, hR.2.1.weaken (fun _ _ _ _ => trivial), X.2.2.2.2.2.2.2.2.1.call hR.2.2.1 hU hW (va_A_sub hR.2.1 hR.2.2.1 X.2.2.2.2.2.2.1)⟩⟩ rfl (by rw [List.length_map]; exact hn) hl.1 (stk_eq hst) (lv_room (by rw [cat_sum]; exact hw)) hd ⟨by omega, by omega⟩
end VCALL
/-- the end of a method's body: the answer, the heap -/
def Fin9 (M : MI) (x : Cx) (ret : Option FieldType) (r : Option Value) (h' : Hp) : Prop := match x with
  | (_, _, _, R, s, _, args, below, meth, _, D, cy, sk, A, n0, ad0, Q) => ∃ (h0 : Hp) (sz : Nat), s.heap.size = sz ∧ n0 = zN h0 ∧ A = va_A (wl cy h0 ad0) sz ∧ meth.sig.returnType = ret ∧ Q = MQ below (CtQ cy D sk h0 h' ad0 sz r) args s R.cells R.slots A
section VEND
variable {M : MI} {x : Cx} {d pc : Nat} {lv : List (Nat × Value)} {h : Hp} {bc bs : Nat}
theorem V_zret {v : Int32} {ty : FieldType} (hd : decode M.1 pc = .ok (.ireturn, 1)) (hn : narrow ty (.int v) = .int v) (F : Fin9 M x (some ty) (some (.int v)) h) : V M x d pc lv [.int v] h bc bs := by
  obtain ⟨p, l, e, R, s, m, args, below, meth, c, D, cy, sk, A, n0, ad0, Q⟩ := x
  intro X hf hlc ad H locs ls cells slots hR hl ol os h1 h2
  obtain ⟨h0, sz, e1, e2, e3, e4, e5⟩ := F
  subst e5
  refine W.widen (k := R.cells) (n := R.slots) (by omega) (by omega) ?_
  exact W.zret X.1 X.2.1 e4 hn (fun t ht hW => ⟨ad, fun a ha => hR.2.2.2.2.2 a (by rw [e2]; exact ha), rfl, by rw [ht]; exact hR.1, e3 ▸ hR.2.1, e3 ▸ (hR.2.2.1.F ht), by rw [← e2]; exact hR.2.2.2.2.1, hR.2.2.2.1, fun v hv => by cases hv; trivial⟩) hR.2.2.1.2.2 hd X.2.2.2.2.2.2.2.1
theorem V_iret {v : Int32} (hd : decode M.1 pc = .ok (.ireturn, 1)) (F : Fin9 M x (some .int) (some (.int v)) h) : V M x d pc lv [.int v] h bc bs := V_zret hd rfl F
theorem V_vret (hd : decode M.1 pc = .ok (.return_, 1)) (F : Fin9 M x none none h) : V M x d pc lv [] h bc bs := by
  obtain ⟨p, l, e, R, s, m, args, below, meth, c, D, cy, sk, A, n0, ad0, Q⟩ := x
  intro X hf hlc ad H locs ls cells slots hR hl ol os h1 h2
  obtain ⟨h0, sz, e1, e2, e3, e4, e5⟩ := F
  subst e5
  refine W.widen (k := R.cells) (n := R.slots) (by omega) (by omega) ?_
  exact W.vret X.1 X.2.1 e4 (fun t ht hW => ⟨ad, fun a ha => hR.2.2.2.2.2 a (by rw [e2]; exact ha), rfl, by rw [ht]; exact hR.1, e3 ▸ hR.2.1, e3 ▸ (hR.2.2.1.F ht), by rw [← e2]; exact hR.2.2.2.2.1, hR.2.2.2.1, fun v hv => by cases hv⟩) hR.2.2.1.2.2 hd X.2.2.2.2.2.2.2.1
end VEND
theorem lv_args_tl (sk ad : Nat → Nat) : ∀ (n : Nat) (av : List Value), lv_args n (av.map (tv sk ad)) = tl sk ad (lv_args n av)
  | _, [] => rfl
  | n, v :: av => by
    simp only [List.map_cons, lv_args, tl, tv_cat]
    congr 1
    exact lv_args_tl sk ad _ av
theorem lg_len (sk ad : Nat → Nat) : ∀ (av : List Value), (lg_sl (av.map (tv sk ad))).length = (lg_sl av).length
  | [] => rfl
  | v :: av => by
    have := lg_len sk ad av
    simp only [lg_sl, List.map_cons, List.flatMap_cons, List.length_append, tv_cat] at this ⊢
    rw [this]
    by_cases hc : v.category = 2 <;> simp [hc]
theorem okl_args {h : Hp} : ∀ {n : Nat} {av : List Value}, oks h av → okl h (lv_args n av)
  | _, [], _ => fun q hq => by cases hq
  | n, v :: av, ho => by
    intro q hq
    rcases List.mem_cons.mp hq with e | e
    · rw [e]; exact ho.1
    · exact okl_args (n := _) ho.2 q e
/-- a contract out of a walk of its body -/
theorem Ct_of {l : Launch} {y : MethodName} {M : MI} {ret : Option FieldType} {d : Nat} {av : List Value} {h : Hp} {mc ms : Nat} {r : Option Value} {h' : Hp} (hy : plainName y.cls = true) (ho : M.2.2.1 = y.cls) (hi : M.2.2.2 = true → y.name = "<init>") (hlen : (lg_sl av).length ≤ M.2.1)
    (hV : ∀ x : Cx, x.2.1 = l → Fin9 M x ret r h' → V M x d 0 (lv_args 0 av) [] h mc ms) : Ct l y M ret d av h mc ms r h' := by
  intro hw hoa D cy sk ad sz
  refine Met.ofW (cc := M.1) (maxL := M.2.1) (ret := ret) hy rfl ?_
  intro p e s m args below meth c s₁ B hml hv
  obtain ⟨rfl, hsz, hP, hK, hD0, hSK⟩ := hv
  subst hsz
  have hts := atoms_spec (ws := .code y M.1 M.2.1 ret :: gTbl) B.pre
  have hown : s.vm.findClass y.cls = some m.cls := findClass_of_methodNamed B.named
  have hin := (name_of_methodNamed B.named B.method).1
  have hl := lv_entry (av.map (tv sk ad)) (n := M.2.1) (by rw [lg_len]; exact hlen)
  rw [lg_entry_eq]
  rw [lv_args_tl] at hl
  have := hV (p, l, e, (headSpec (.code y M.1 M.2.1 ret :: gTbl) (rmD d mc ms)).room, s, m, (av.map (tv sk ad)).toArray, below, meth, c, D, cy, sk, va_A (wl cy h ad) s.heap.size, zN h, ad, MQ below (CtQ cy D sk h h' ad s.heap.size r) (av.map (tv sk ad)).toArray s mc ms (va_A (wl cy h ad) s.heap.size)) rfl ⟨h, s.heap.size, rfl, rfl, rfl, B.returns, rfl⟩
  exact this ⟨B.exec, B.bytes, hml, by rw [ho]; exact hown, fun w hw => hts w (List.mem_cons_of_mem _ hw), hK, fun q hq => Or.inr hq, B.notSynchronized, hSK, fun hM => by rw [hin]; exact hi hM⟩ (Nat.le_refl _) (Nat.le_refl _) ad s.heap [] _ 0 0 ⟨hP, hD0.self, va_S.rf, hw, Nat.le_refl _, fun _ _ => rfl⟩ hl (okl_args hoa) trivial (by show 0 + mc ≤ mc; omega) (by show 0 + ms ≤ ms; omega)
