/-! THE CLAIM OUT OF ONE WALK OF THE LAW'S BODY. Your part is whole_start (and what it stands on); all else here is the same for every law, but numbers. -/
def R_law : String := "PinInnLaw"
def lw_P (b : Addr) (xs : List Int32) (args : Array Value) (s : State) : Prop := args = #[.ref b] ∧ s.IntsAt b xs ∧ xs.length ≤ 3072 ∧ (Jvm.Cond.and given_1 narrow_1).before args s = true
def lw_Q (_ : Array Value) (s : State) (o : Outcome) (t : State) : Prop := o = .returned (some (.int 1)) ∧ Framed s o t [] room_1.cells room_1.slots
def lw_Z (below : List Frame) (a : Array Value) (s : State) : State → Prop := fun t => ∃ o, t.status = .running ∧ Ended t below o ∧ lw_Q a s o t
/-- the law's own end, with 1 on the stack, nothing written that was there before, its room as the claim has it -/
theorem lw_ret {p : Program} {l : Launch} {e : Env} {s : State} {m : MethodId} {below : List Frame} {meth : Method} {c : Code} {b : Nat} (hx : p.tables.exec = Jvm.exec) (hb : c.code = code) (hr : meth.sig.returnType = ret) (hlocks : meth.locks = false) {pc : Nat} {H : Heap} {ls : Array Slot} (hdg : decode code pc = .ok (.ireturn, 1)) : W p l e room_1 s m #[Value.ref b] below meth c H [] room_1.cells room_1.slots (lw_Z below #[Value.ref b] s) (F0 m pc ls [.int 1]) := by
  intro T hT X
  obtain ⟨fs, hret, hrun, hended, hW, hframe⟩ := X.leave (v := some (.int 1)) (hlocks := hlocks) (fun h => by rw [hr] at h; cases h)
  have hmeth' : T.vm.method? m = some meth := X.method'
  refine ⟨T.setFrames fs, ?_, .returned (some (.int 1)), hrun, hended, rfl, ⟨_, rfl⟩, hW, hframe⟩
  jvm_step X.here [X.here.top, hx, hb, hdg, hmeth', hr, ret, narrow_b1]
  (try refine ⟨rfl, ?_⟩); (try refine ⟨rfl, ?_⟩)
  first | (intro acts; rw [hret _ acts rfl rfl rfl]) | rw [hret _ _ rfl rfl rfl]
  exact Steps.refl _
/-- what holds at the law's entry: the machine, the code, the tables' words (any of lw_tbl by 'hts w (by decide +kernel)'), the script of L ints xs at the cell b, what the Statement gives of the start (any of its parts by flat_of_before) -/
def lw_At (p : Program) (s : State) (m : MethodId) (meth : Method) (c : Code) (b L : Nat) (xs : Nat → Int32) : Prop :=
  p.tables.exec = Jvm.exec ∧ c.code = code ∧ meth.sig.returnType = ret ∧ c.maxLocals = 7 ∧ s.vm.findClass R_law = some m.cls ∧ (∀ w ∈ lw_tbl, w.before #[Value.ref b] s = true) ∧ va_X b L xs s s.heap ∧ b < s.heap.size ∧ meth.locks = false ∧ (Jvm.Cond.and given_1 narrow_1).before #[Value.ref b] s = true

/-! THE LAW'S OWN ROWS: its helpers with their tables, the script, its end -/
def TabX (x : Cx) (hh : List (Nat × Nat × Nat × Nat)) : Prop := x.2.2.2.2.2.2.2.2.2.1.exceptionTable.toList = tableOf hh
def CtW (l : Launch) (y : MethodName) (M : MI) (ret : Option FieldType) (hh : List (Nat × Nat × Nat × Nat)) (d : Nat) (av : List Value) (h : Hp) (mc ms : Nat) (r : Option Value) (h' : Hp) : Prop :=
  wf h → oks h av → ∀ (D : va_G) (cy : Nat → ClassId) (sk ad : Nat → Nat) (sz : Nat), Met l y (.codeWith y M.1 M.2.1 ret hh :: gTbl) (rmD d mc ms) (CtP cy D sk h ad sz av) (CtQ cy D sk h h' ad sz r) mc ms (va_A (wl cy h ad) sz)
theorem CtW_of {l : Launch} {y : MethodName} {M : MI} {ret : Option FieldType} {hh : List (Nat × Nat × Nat × Nat)} {d : Nat} {av : List Value} {h : Hp} {mc ms : Nat} {r : Option Value} {h' : Hp} (hy : plainName y.cls = true) (ho : M.2.2.1 = y.cls) (hi : M.2.2.2 = true → y.name = "<init>") (hlen : (lg_sl av).length ≤ M.2.1)
    (hV : ∀ x : Cx, x.2.1 = l → TabX x hh → Fin9 M x ret r h' → V M x d 0 (lv_args 0 av) [] h mc ms) : CtW l y M ret hh d av h mc ms r h' := by
  intro hw hoa D cy sk ad sz
  refine va_MetW (cc := M.1) (maxL := M.2.1) (ret := ret) (hh := hh) hy rfl ?_
  intro p e s m args below meth c s₁ B hml hv
  obtain ⟨rfl, hsz, hP, hK, hD0, hSK⟩ := hv
  subst hsz
  have hts := atoms_spec (ws := .codeWith y M.1 M.2.1 ret hh :: gTbl) B.pre
  have hown : s.vm.findClass y.cls = some m.cls := findClass_of_methodNamed B.named
  have hin := (name_of_methodNamed B.named B.method).1
  have hl := lv_entry (av.map (tv sk ad)) (n := M.2.1) (by rw [lg_len]; exact hlen)
  rw [lg_entry_eq]
  rw [lv_args_tl] at hl
  have := hV (p, l, e, (headSpec (.codeWith y M.1 M.2.1 ret hh :: gTbl) (rmD d mc ms)).room, s, m, (av.map (tv sk ad)).toArray, below, meth, c, D, cy, sk, va_A (wl cy h ad) s.heap.size, zN h, ad, MQ below (CtQ cy D sk h h' ad s.heap.size r) (av.map (tv sk ad)).toArray s mc ms (va_A (wl cy h ad) s.heap.size)) rfl (vx_table (x := y) B (hts _ List.mem_cons_self)) ⟨h, s.heap.size, rfl, rfl, rfl, B.returns, rfl⟩
  exact this ⟨B.exec, B.bytes, hml, by rw [ho]; exact hown, fun w hw => hts w (List.mem_cons_of_mem _ hw), hK, fun q hq => Or.inr hq, B.notSynchronized, hSK, fun hM => by rw [hin]; exact hi hM⟩ (Nat.le_refl _) (Nat.le_refl _) ad s.heap [] _ 0 0 ⟨hP, hD0.self, va_S.rf, hw, Nat.le_refl _, fun _ _ => rfl⟩ hl (okl_args hoa) trivial (by show 0 + mc ≤ mc; omega) (by show 0 + ms ≤ ms; omega)
def MLW (own : String) (idx : Nat) (y : MethodName) (M : MI) (ret : Option FieldType) (hh : List (Nat × Nat × Nat × Nat)) (n : Nat) : Prop := Cond.methodLink own idx y ∈ gTbl ∧ Cond.static y ∈ gTbl ∧ Cond.initialized y.cls ∈ gTbl ∧ Cond.codeWith y M.1 M.2.1 ret hh ∈ gTbl ∧ (y.cls ≠ "java/lang/invoke/MethodHandle" ∧ y.cls ≠ "java/lang/invoke/VarHandle" ∧ (parseMethodDescriptor y.desc).map (fun d => d.parameters.length) = some n) ∧ M.2.1 ≤ 45
/-- a handler that takes E -/
def Hand (own : String) (hh : List (Nat × Nat × Nat × Nat)) (pc hpc : Nat) (E : String) : Prop := ∃ (pre : List ExceptionTableEntry) (z : ExceptionTableEntry) (suf : List ExceptionTableEntry), tableOf hh = pre ++ z :: suf ∧ (∀ q ∈ pre, q.catchType ≠ 0 ∧ ∃ nm : String, Cond.classLink own q.catchType nm ∈ gTbl ∧ (E, nm) ∈ ncL) ∧ covers z pc = true ∧ z.catchType ≠ 0 ∧ Cond.classLink own z.catchType E ∈ gTbl ∧ Cond.castable E E ∈ nTbl ∧ z.handlerPc = hpc
section VLAW
variable {M M' : MI} {x : Cx} {d d' pc idx n : Nat} {lv lv' : List (Nat × Value)} {st stk As : List Value} {h h' : Hp} {bc bs mc ms : Nat} {r : Option Value} {y : MethodName} {ret : Option FieldType} {hh : List (Nat × Nat × Nat × Nat)}
theorem V_callW (hd : decode M.1 pc = .ok (.invokestatic idx, 3)) (hm : MLW M.2.2.1 idx y M' ret hh n) (hst : stk = As.reverse ++ st) (hn : As.length = n) (hw : (st.map fun v => v.category).sum ≤ 8) (hdd : d' < d) (hC : CtW x.2.1 y M' ret hh d' As h mc ms r h') (kk : V M x d (pc + 3) lv (r.toList ++ st) h' bc bs) : V M x d pc lv stk h (bc + mc) (bs + ms) := by
  obtain ⟨p, l, e, R, s, m, args, below, meth, c, D, cy, sk, A, n0, ad0, Q⟩ := x
  intro X hf hlc ad H locs ls cells slots hR hl ol os h1 h2
  obtain ⟨m1, m2, m4, m5, m6, m7⟩ := hm
  rw [hst] at os
  obtain ⟨o1, o2⟩ := oks_append os
  have hM := hC hR.2.2.2.1 (oks_rev o1) D cy sk ad H.size
  refine V_after (a9 := (As.map (tv sk ad)).toArray) X hf hlc hR hl ol o2 h1 h2 ?_ kk
  exact vx_runSW ⟨X.1, X.2.1, X.2.2.1, X.2.2.2.1, X.2.2.2.2.1⟩ hM (vx_cwSW n X.2.2.2.2.1 (gIn (fun w hw => by
      rcases List.mem_append.mp hw with hw | hw
      · rcases List.mem_cons.mp hw with rfl | hw
        · exact m1
        · rcases List.mem_cons.mp hw with rfl | hw
          · exact m2
          · rcases List.mem_cons.mp hw with rfl | hw
            · exact m4
            · cases hw
      · rcases List.mem_cons.mp hw with rfl | hw
        · exact m5
        · exact hw)) rfl rfl rfl m6 ⟨by show d' + 1 ≤ _; omega, by show 8 + (M'.2.1 + 11) + 64 * d' ≤ _; omega⟩)
    ⟨CtP_blind, fun U hU hW => ⟨rfl, by rw [hU], by rw [hU]; exact hR.1, va_K.moved hW.alike X.2.2.2.2.2.1, hR.2.1.weaken (fun _ _ _ _ => trivial), X.2.2.2.2.2.2.2.2.1.call hR.2.2.1 hU hW (va_A_sub hR.2.1 hR.2.2.1 X.2.2.2.2.2.2.1)⟩⟩ rfl (by rw [List.length_map]; exact hn) hl.1 (stk_eqS hst) (lv_room (by rw [cat_sum]; exact hw)) hd ⟨by omega, by omega⟩
/-- a call that throws E, which a handler takes and stores in the local k9 -/
theorem V_catch {a ci : Nat} {T : u_T} {N : Nat} {hpc k9 len : Nat} {E : String} (hT : TabX x hh) (hd : decode M.1 pc = .ok (.invokevirtual idx, 3)) (hm : MLV M.2.2.1 idx y M' ret n) (hc : vwCl[ci]? = some (y.cls, T, N)) (hk : kd h a = ci) (hst : stk = As.reverse ++ .ref a :: st) (hn : As.length = n) (hw : (st.map fun v => v.category).sum ≤ 8) (hdd : d' < d) (hC : CtX x.2.1 y M' ret d' (.ref a :: As) h mc ms E h') (hH : Hand M.2.2.1 hh pc hpc E)
    (hda : decode M.1 hpc = .ok (.astore k9, 2) ∧ len = 2 ∨ ∃ j : Fin 4, decode M.1 hpc = .ok (.astore_n j, 1) ∧ (j : Nat) = k9 ∧ len = 1) (h9 : k9 < M.2.1) (hs : (s1 k9 (.int 0) lv).tail = lv') (kk : V M x d (hpc + len) lv' [] h' bc bs) : V M x d pc lv stk h (bc + mc) (bs + ms) := by
  obtain ⟨p, l, e, R, s, m, args, below, meth, c, D, cy, sk, A, n0, ad0, Q⟩ := x
  intro X hf hlc ad H locs ls cells slots hR hl ol os h1 h2
  obtain ⟨m1, m2, m3, m4, m5, m6, m7⟩ := hm
  obtain ⟨pre, z, suf, t1, t2, t3, t4, t5, t6, t7⟩ := hH
  rw [hst] at os
  obtain ⟨o1, o2⟩ := oks_append os
  have hM := hC hR.2.2.2.1 ⟨o2.1, oks_rev o1⟩ D cy sk ad H.size
  have hsub := va_A_sub hR.2.1 hR.2.2.1 X.2.2.2.2.2.2.1
  have run := vx_runV (locs := locs) (cells := cells) (slots := slots) (g := F0 m pc ls (stk.map (tv sk ad))) ⟨X.1, X.2.1, X.2.2.1, X.2.2.2.1, X.2.2.2.2.1⟩ hM (cwV n X.2.2.2.2.1 (gIn (fun w hw => by
      rcases List.mem_append.mp hw with hw | hw
      · rcases List.mem_cons.mp hw with rfl | hw
        · exact m1
        · rcases List.mem_cons.mp hw with rfl | hw
          · exact m2
          · rcases List.mem_cons.mp hw with rfl | hw
            · exact m3
            · rcases List.mem_cons.mp hw with rfl | hw
              · exact m4
              · cases hw
      · rcases List.mem_cons.mp hw with rfl | hw
        · exact m5
        · exact hw)) rfl rfl rfl ⟨rfl, m6⟩ ⟨by show d' + 1 ≤ R.frames; omega, by show 8 + (M'.2.1 + 11) + 64 * d' ≤ R.locals; omega⟩)
    ⟨CtP_blind, va_recv X.2.2.2.2.2.1 hR.1 hc (wl_obj hk (vw_lt hc)), fun U hU hW => ⟨rfl, by rw [hU], by rw [hU]; exact hR.1, va_K.moved hW.alike X.2.2.2.2.2.1, hR.2.1.weaken (fun _ _ _ _ => trivial), X.2.2.2.2.2.2.2.2.1.call hR.2.2.1 hU hW (va_A_sub hR.2.1 hR.2.2.1 X.2.2.2.2.2.2.1)⟩⟩ (p := p) (e := e) (below := below) (meth := meth) rfl (by rw [List.length_map]; exact hn) hl.1 (stk_eq hst) (lv_room (by rw [cat_sum]; exact hw)) hd ⟨by omega, by omega⟩
  intro T9 hT9 XS
  rcases run T9 hT9 XS with ⟨v, st₀, t, T', L, e0, X', hL, e1, e2, hq, go⟩ | ⟨q, st₀, t, T', L, E', ce, e0, X', hL, e1, e2, hXC, hce, hv, hcl, go⟩
  · exact hq.elim
  · obtain ⟨rfl, ad', hx, hP', hD', hF', hN', hw'⟩ := hXC
    obtain ⟨g1, g2, g3⟩ := vx_keep e0 e1 hR.2.2.1 (fun q _ hq => hsub q hq) (fun q hq => hsub q hq) hL hF'
    have hl' : lv_has ls M.2.1 (tl sk ad' lv) := by rw [tl_ext hx ol]; exact hl
    have hRl : Rl cy D A n0 ad0 s.heap h' ad' T'.heap (locs ++ L) := ⟨by rw [e1]; exact hP', hD'.weaken (fun _ _ _ hq => hsub _ hq), g3, hw', Nat.le_trans hR.2.2.2.2.1 hN', fun a ha => (hx a (Nat.lt_of_lt_of_le ha hR.2.2.2.2.1)).trans (hR.2.2.2.2.2 a ha)⟩
    have hrest : ∀ ls' : Array Slot, lv_has ls' M.2.1 ((k9, Value.ref q) :: (tl sk ad' lv).filter (fun q => !(q.1 == k9) && !(q.1 + 1 == k9 && q.2.category == 2))) → W p l e R s m args below meth c T'.heap (locs ++ L) (cells + mc) (slots + ms) Q (F0 m (hpc + len) ls' []) := by
      intro ls' hl9
      subst hs
      have e8 := tl_s1 sk ad' k9 (.int 0) lv
      have e9 : (tl sk ad' lv).filter (fun q => !(q.1 == k9) && !(q.1 + 1 == k9 && q.2.category == 2)) = tl sk ad' (s1 k9 (.int 0) lv).tail := by
        have := congrArg List.tail e8
        simpa [tl, s1] using this
      rw [e9] at hl9
      exact kk X hf hlc ad' T'.heap (locs ++ L) ls' (cells + mc) (slots + ms) hRl ⟨hl9.1, hl9.2.1, fun q hq => hl9.2.2 q (List.mem_cons_of_mem _ hq)⟩ (fun q hq => okl_mono hN' ol q (List.mem_filter.mp hq).1) trivial (by omega) (by omega)
    have hW9 : W p l e R s m args below meth c T'.heap (locs ++ L) (cells + mc) (slots + ms) Q (F0 m z.handlerPc ls [.ref q]) := by
      rw [t7]
      rcases hda with ⟨d1, rfl⟩ | ⟨j, d1, d2, rfl⟩
      · exact lv_astore X.1 X.2.1 d1 hl' h9 rfl (fun ls' h => hrest ls' h)
      · exact lv_astore_n X.1 X.2.1 d1 d2 hl' h9 rfl (fun ls' h => hrest ls' h)
    obtain ⟨t2', s2, q2⟩ := vx_catch (rest := st.map (tv sk ad)) X.2.2.2.1 pre z suf (hT.trans t1) (fun q hq => Or.inr ⟨(t2 q hq).1, by
        obtain ⟨nm, k1, k2⟩ := (t2 q hq).2
        exact ⟨nm, X.2.2.2.2.1 _ k1, X.2.2.2.2.2.2.2.2.1.2.2.2.2.2.2.2.2 _ k2⟩⟩) t3 t4 (X.2.2.2.2.1 _ t5) (va_Nw.use rfl (X.2.2.2.2.2.2.2.2.1.2.2.2.2.2.2.1 _ t6)) (by rw [e1]; exact hce) hv hcl hW9 T' rfl X'
    exact ⟨t2', go.trans s2, q2⟩
def LawX (x : Cx) (L : Nat) (xs : Nat → Int32) (v : UInt32) : Prop := match x with
  | (_, _, _, _, s, _, _, _, _, _, _, _, sk, A, _, _, _) => va_X (sk v.toNat) L xs s s.heap ∧ sk v.toNat < s.heap.size ∧ ¬ A (sk v.toNat)
theorem V_xlen {L : Nat} {xs : Nat → Int32} {v : UInt32} (hX : LawX x L xs v) (hd : decode M.1 pc = .ok (.arraylength, 1)) (kk : V M x d (pc + 1) lv (.int (Int32.ofNat L) :: st) h bc bs) : V M x d pc lv (.float v :: st) h bc bs := by
  obtain ⟨p, l, e, R, s, m, args, below, meth, c, D, cy, sk, A, n0, ad0, Q⟩ := x
  intro X hf hlc ad H locs ls cells slots hR hl ol os h1 h2
  exact va_slen X.1 X.2.1 hX.1 hX.2.1 hX.2.2 hR.2.2.1 hd (kk X hf hlc ad H locs ls cells slots hR hl ol ⟨trivial, os.2⟩ h1 h2)
theorem V_xld {L : Nat} {xs : Nat → Int32} {v : UInt32} {i : Int32} (hX : LawX x L xs v) (hd : decode M.1 pc = .ok (.iaload, 1)) (hi : vp_in i L) (kk : V M x d (pc + 1) lv (.int (xs i.toNatClampNeg) :: st) h bc bs) : V M x d pc lv (.int i :: .float v :: st) h bc bs := by
  obtain ⟨p, l, e, R, s, m, args, below, meth, c, D, cy, sk, A, n0, ad0, Q⟩ := x
  intro X hf hlc ad H locs ls cells slots hR hl ol os h1 h2
  exact va_sld X.1 X.2.1 hX.1 hX.2.1 hX.2.2 hR.2.2.1 hi hd (kk X hf hlc ad H locs ls cells slots hR hl ol ⟨trivial, os.2.2⟩ h1 h2)
theorem V_newLQ {n : Int32} {q : Nat} (hd : decode M.1 pc = .ok (.newarray .long, 2)) (hw : Cond.arrayClass .long ∈ gTbl) (hn : ¬ n < 0) (hB : n.toNatClampNeg ≤ 60000000) (hq : zN h = q) (kk : V M x d (pc + 2) lv (.ref q :: st) (alloc h 16 n.toNatClampNeg) bc bs) : V M x d pc lv (.int n :: st) h (bc + 1) (bs + n.toNatClampNeg) := V_newL hd hw hn hB (hq ▸ kk)
end VLAW
def FinL (x : Cx) : Prop := match x with
  | (_, _, _, R, s, _, args, below, meth, _, _, _, _, A, _, _, Q) => ∃ b : Nat, args = #[Value.ref b] ∧ R = room_1 ∧ A = (fun q => s.heap.size ≤ q) ∧ meth.sig.returnType = ret ∧ Q = lw_Z below #[Value.ref b] s

theorem V_lret {M : MI} {x : Cx} {d pc : Nat} {lv : List (Nat × Value)} {h : Hp} {bc bs : Nat} (hM : M.1 = code) (hd : decode code pc = .ok (.ireturn, 1)) (F : FinL x) : V M x d pc lv [.int 1] h bc bs := by
  obtain ⟨p, l, e, R, s, m, args, below, meth, c, D, cy, sk, A, n0, ad0, Q⟩ := x
  intro X hf hlc ad H locs ls cells slots hR hl ol os h1 h2
  obtain ⟨b, e1, e2, e3, e4, e5⟩ := F
  subst e1
  subst e2
  subst e5
  refine va_forget (fun q hq => by have := hR.2.2.1.2.2 q hq; rw [e3] at this; exact this) ?_
  refine W.widen (k := room_1.cells) (n := room_1.slots) (by omega) (by omega) ?_
  exact lw_ret X.1 (X.2.1.trans hM) e4 X.2.2.2.2.2.2.2.1 hd
