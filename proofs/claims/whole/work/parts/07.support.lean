/-! WORDS OF THE DECOMPILED FUNCTIONS, and the last rows -/
def gd {α : Type} (b : Bool) (k : Option α) : Option α := match b with
  | true => k
  | false => none
def ob {α β : Type} (a : Option α) (f : α → Option β) : Option β := match a with
  | some x => f x
  | none => none
def ob2 {α β γ : Type} (a : Option (α × β)) (f : α → β → Option γ) : Option γ := match a with
  | some (x, y) => f x y
  | none => none
def un2 {α β γ : Type} (z : α × β) (f : α → β → γ) : γ := f z.1 z.2
def un3 {α β γ δ : Type} (z : α × β × γ) (f : α → β → γ → δ) : δ := f z.1 z.2.1 z.2.2
def un4 {α β γ δ ε : Type} (z : α × β × γ × δ) (f : α → β → γ → δ → ε) : ε := f z.1 z.2.1 z.2.2.1 z.2.2.2
def un5 {α β γ δ ε ζ : Type} (z : α × β × γ × δ × ε) (f : α → β → γ → δ → ε → ζ) : ζ := f z.1 z.2.1 z.2.2.1 z.2.2.2.1 z.2.2.2.2
def sm {α β γ : Type} (z : α ⊕ β) (f : α → γ) (g : β → γ) : γ := match z with
  | .inl a => f a
  | .inr b => g b
theorem gd_some {α : Type} {b : Bool} {k : Option α} {r : α} (h : gd b k = some r) : b = true ∧ k = some r := by
  cases b with
  | true => exact ⟨rfl, h⟩
  | false => cases h
theorem ob_some {α β : Type} {a : Option α} {f : α → Option β} {r : β} (h : ob a f = some r) : ∃ x, a = some x ∧ f x = some r := by
  cases a with
  | none => cases h
  | some x => exact ⟨x, rfl, h⟩
theorem ob2_some {α β γ : Type} {a : Option (α × β)} {f : α → β → Option γ} {r : γ} (h : ob2 a f = some r) : ∃ x y, a = some (x, y) ∧ f x y = some r := by
  cases a with
  | none => cases h
  | some q => exact ⟨q.1, q.2, rfl, h⟩
/-- a loop: its body goes on (inl) or leaves (inr) -/
def iter {S X : Type} (body : S → Option (S ⊕ X)) : Nat → S → Option X
  | 0, _ => none
  | n + 1, s => match body s with
    | none => none
    | some (.inl s') => iter body n s'
    | some (.inr x) => some x
def FU : Nat := 1000000000
theorem iter_V {S X : Type} {body : S → Option (S ⊕ X)} {P : S → Prop} {E : X → Prop} (hs : ∀ (s : S) (o : S ⊕ X), body s = some o → (∀ s', o = .inl s' → P s') → (∀ x, o = .inr x → E x) → P s) : ∀ (n : Nat) (s : S) (x : X), iter body n s = some x → E x → P s
  | 0, _, _, h, _ => by cases h
  | n + 1, s, x, h, hE => by
    unfold iter at h
    cases hb : body s with
    | none => rw [hb] at h; cases h
    | some o =>
      rw [hb] at h
      refine hs s o hb (fun s' hs' => ?_) (fun x' hx' => ?_)
      · subst hs'
        exact iter_V hs n s' x h hE
      · subst hx'
        cases h
        exact hE
def ix (i : Int32) (n : Nat) : Bool := decide (¬ i < 0) && decide (i.toNatClampNeg < n)
theorem ix_in {i : Int32} {n : Nat} (h : ix i n = true) : vp_in i n := by
  unfold ix at h
  rw [Bool.and_eq_true] at h
  have h1 := of_decide_eq_true h.1
  have h2 := of_decide_eq_true h.2
  intro q
  rcases q with q | q
  · exact h1 q
  · omega
theorem z01 {v : Int32} (h : v = 0 ∨ v = 1) : narrow .boolean (.int v) = .int v := by rcases h with rfl | rfl <;> rfl
theorem tI_ne {a b : Int32} {z : Int} (h : ¬ a = b) (hz : b.toInt = z) : a.toInt ≠ z := fun q => h (Int32.toInt_inj.mp (q.trans hz.symm))
def jabs (x : Int32) : Int32 := if 0 ≤ x then x else 0 - x
def jmax (x y : Int32) : Int32 := if x < y then y else x
def jmin (x y : Int32) : Int32 := if y < x then y else x
def slen (k : UInt32) : Int32 := Int32.ofNat (sB.getD k.toNat []).length
def schar (k : UInt32) (i : Int32) : Int32 := (sB.getD k.toNat []).getD i.toNatClampNeg 0
def cpk (sp dp n : Int32) (a b : Nat) : Bool := decide (¬ sp < 0) && (decide (¬ dp < 0) && (decide (¬ n < 0) && (decide (sp.toNatClampNeg + n.toNatClampNeg ≤ a) && decide (dp.toNatClampNeg + n.toNatClampNeg ≤ b))))
def cpA (h : Hp) (src : Nat) (sp : Int32) (dst : Nat) (dp n : Int32) : Hp := setA h dst (va_cpy (zI h src) (zI h dst) sp.toNatClampNeg dp.toNatClampNeg n.toNatClampNeg)
def WMath (own : String) (idx : Nat) (y : MethodName) (b : ByteArray) (n : Nat) : Prop := Cond.methodLink own idx y ∈ gTbl ∧ Cond.static y ∈ gTbl ∧ Cond.initialized "java/lang/Math" ∈ gTbl ∧ Cond.code y b n (some .int) ∈ gTbl
def WCopy (own : String) (idx : Nat) : Prop := Cond.methodLink own idx arraycopyName ∈ gTbl ∧ Cond.native arraycopyName ∈ gTbl ∧ Cond.static arraycopyName ∈ gTbl ∧ Cond.initialized "java/lang/System" ∈ gTbl
section VMORE
variable {M : MI} {x : Cx} {d pc idx : Nat} {lv lv' : List (Nat × Value)} {st : List Value} {h : Hp} {bc bs : Nat}

theorem V_pick (ks : List Nat) (hp : lv_pick lv ks = lv') (kk : V M x d pc lv' st h bc bs) : V M x d pc lv st h bc bs := by
  obtain ⟨p, l, e, R, s, m, args, below, meth, c, D, cy, sk, A, n0, ad0, Q⟩ := x
  intro X hf hlc ad H locs ls cells slots hR hl ol os h1 h2
  subst hp
  have hm : ∀ q ∈ lv_pick lv ks, q ∈ lv := fun q hq => by
    obtain ⟨k, -, hk⟩ := List.mem_filterMap.mp hq
    exact List.mem_of_getElem? hk
  refine kk X hf hlc ad H locs ls cells slots hR ⟨hl.1, hl.2.1, fun q hq => ?_⟩ (fun q hq => ol q (hm q hq)) os h1 h2
  obtain ⟨q0, hq0, rfl⟩ := List.mem_map.mp hq
  exact hl.2.2 _ (List.mem_map.mpr ⟨q0, hm q0 hq0, rfl⟩)
theorem V_ldc {v : Int32} (hd : decode M.1 pc = .ok (.ldc idx, 2)) (hw : Cond.constant M.2.2.1 idx v ∈ gTbl) (kk : V M x d (pc + 2) lv (.int v :: st) h bc bs) : V M x d pc lv st h bc bs := by
  obtain ⟨p, l, e, R, s, m, args, below, meth, c, D, cy, sk, A, n0, ad0, Q⟩ := x
  intro X hf hlc ad H locs ls cells slots hR hl ol os h1 h2
  exact lv_ldc X.1 X.2.1 X.2.2.2.1 (X.2.2.2.2.1 _ hw) hd (kk X hf hlc ad H locs ls cells slots hR hl ol ⟨trivial, os⟩ h1 h2)
theorem V_ldcw {v : Int32} (hd : decode M.1 pc = .ok (.ldc_w idx, 3)) (hw : Cond.constant M.2.2.1 idx v ∈ gTbl) (kk : V M x d (pc + 3) lv (.int v :: st) h bc bs) : V M x d pc lv st h bc bs := by
  obtain ⟨p, l, e, R, s, m, args, below, meth, c, D, cy, sk, A, n0, ad0, Q⟩ := x
  intro X hf hlc ad H locs ls cells slots hR hl ol os h1 h2
  exact lv_ldcw X.1 X.2.1 X.2.2.2.1 (X.2.2.2.2.1 _ hw) hd (kk X hf hlc ad H locs ls cells slots hR hl ol ⟨trivial, os⟩ h1 h2)
theorem V_ldcS {j : Nat} {u : UInt32} {tx : String} (hd : decode M.1 pc = .ok (.ldc idx, 2)) (hj : kS[j]? = some (M.2.2.1, idx, tx)) (hu : u.toNat = j) (kk : V M x d (pc + 2) lv (.float u :: st) h bc bs) : V M x d pc lv st h bc bs := by
  obtain ⟨p, l, e, R, s, m, args, below, meth, c, D, cy, sk, A, n0, ad0, Q⟩ := x
  intro X hf hlc ad H locs ls cells slots hR hl ol os h1 h2
  have hZ := X.2.2.2.2.2.2.2.2.1.1 j _ hj
  rw [← hu] at hZ
  exact va_ldcS X.1 X.2.1 X.2.2.2.1 hZ hd (kk X hf hlc ad H locs ls cells slots hR hl ol ⟨trivial, os⟩ h1 h2)
theorem V_lcmp {a b : Int64} (hd : decode M.1 pc = .ok (.lcmp, 1)) (kk : V M x d (pc + 1) lv (.int (lg_cmp a b) :: st) h bc bs) : V M x d pc lv (.long b :: .long a :: st) h bc bs := by
  obtain ⟨p, l, e, R, s, m, args, below, meth, c, D, cy, sk, A, n0, ad0, Q⟩ := x
  intro X hf hlc ad H locs ls cells slots hR hl ol os h1 h2
  exact W.lcmp X.1 X.2.1 hd (kk X hf hlc ad H locs ls cells slots hR hl ol ⟨trivial, os.2.2⟩ h1 h2)
theorem V_lookup {dflt : Int} {ps : Array (Int × Int)} {len : Nat} {a : Int32} {off : Int} {tgt : Nat} (hd : decode M.1 pc = .ok (.lookupswitch dflt ps, len)) (hp : (ps.toList.zip (ps.toList.drop 1)).all (fun (a, next) => a.1 < next.1) = true) (ho : Op.lookupswitch.offset ps.toList dflt a.toInt = off) (ht : (pc : Int) + off = (tgt : Int)) (kk : V M x d tgt lv st h bc bs) : V M x d pc lv (.int a :: st) h bc bs := by
  obtain ⟨p, l, e, R, s, m, args, below, meth, c, D, cy, sk, A, n0, ad0, Q⟩ := x
  intro X hf hlc ad H locs ls cells slots hR hl ol os h1 h2
  exact lv_lookup X.1 X.2.1 hd hp ho ht (kk X hf hlc ad H locs ls cells slots hR hl ol os.2 h1 h2)
theorem V_abs {a : Int32} (hd : decode M.1 pc = .ok (.invokestatic idx, 3)) (hw : WMath M.2.2.1 idx Lib.Math.abs.name Lib.Math.abs.code 1) (h9 : 1 ≤ d) (hs : (st.map fun v => v.category).sum ≤ 8) (kk : V M x d (pc + 3) lv (.int (jabs a) :: st) h bc bs) : V M x d pc lv (.int a :: st) h bc bs := by
  obtain ⟨p, l, e, R, s, m, args, below, meth, c, D, cy, sk, A, n0, ad0, Q⟩ := x
  intro X hf hlc ad H locs ls cells slots hR hl ol os h1 h2
  exact va_mabs X.1 X.2.1 (X.2.2.1.trans hl.1.symm) X.2.2.2.1 (X.2.2.2.2.1 _ hw.1) (X.2.2.2.2.1 _ hw.2.1) (X.2.2.2.2.1 _ hw.2.2.1) (X.2.2.2.2.1 _ hw.2.2.2) (by omega) (by rw [cat_sum]; omega) (by omega) (by omega) hd (kk X hf hlc ad H locs ls cells slots hR hl ol ⟨trivial, os.2⟩ h1 h2)

theorem V_max {a b : Int32} (hd : decode M.1 pc = .ok (.invokestatic idx, 3)) (hw : WMath M.2.2.1 idx Lib.Math.max.name Lib.Math.max.code 2) (h9 : 1 ≤ d) (hs : (st.map fun v => v.category).sum ≤ 8) (kk : V M x d (pc + 3) lv (.int (jmax a b) :: st) h bc bs) : V M x d pc lv (.int b :: .int a :: st) h bc bs := by
  obtain ⟨p, l, e, R, s, m, args, below, meth, c, D, cy, sk, A, n0, ad0, Q⟩ := x
  intro X hf hlc ad H locs ls cells slots hR hl ol os h1 h2
  exact va_mmax X.1 X.2.1 (X.2.2.1.trans hl.1.symm) X.2.2.2.1 (X.2.2.2.2.1 _ hw.1) (X.2.2.2.2.1 _ hw.2.1) (X.2.2.2.2.1 _ hw.2.2.1) (X.2.2.2.2.1 _ hw.2.2.2) (by omega) (by rw [cat_sum]; omega) (by omega) (by omega) hd (kk X hf hlc ad H locs ls cells slots hR hl ol ⟨trivial, os.2.2⟩ h1 h2)

theorem V_min {a b : Int32} (hd : decode M.1 pc = .ok (.invokestatic idx, 3)) (hw : WMath M.2.2.1 idx Lib.Math.min.name Lib.Math.min.code 2) (h9 : 1 ≤ d) (hs : (st.map fun v => v.category).sum ≤ 8) (kk : V M x d (pc + 3) lv (.int (jmin a b) :: st) h bc bs) : V M x d pc lv (.int b :: .int a :: st) h bc bs := by
  obtain ⟨p, l, e, R, s, m, args, below, meth, c, D, cy, sk, A, n0, ad0, Q⟩ := x
  intro X hf hlc ad H locs ls cells slots hR hl ol os h1 h2
  exact va_mmin X.1 X.2.1 (X.2.2.1.trans hl.1.symm) X.2.2.2.1 (X.2.2.2.2.1 _ hw.1) (X.2.2.2.2.1 _ hw.2.1) (X.2.2.2.2.1 _ hw.2.2.1) (X.2.2.2.2.1 _ hw.2.2.2) (by omega) (by rw [cat_sum]; omega) (by omega) (by omega) hd (kk X hf hlc ad H locs ls cells slots hR hl ol ⟨trivial, os.2.2⟩ h1 h2)

theorem V_copy {src dst : Nat} {sp dp n : Int32} (hd : decode M.1 pc = .ok (.invokestatic idx, 3)) (hw : WCopy M.2.2.1 idx) (hk : kd h src = 13) (hk2 : kd h dst = 13) (hg : cpk sp dp n (zl h src) (zl h dst) = true) (h9 : 1 ≤ d) (hs : (st.map fun v => v.category).sum ≤ 8) (kk : V M x d (pc + 3) lv st (cpA h src sp dst dp n) bc bs) : V M x d pc lv (.int n :: .int dp :: .ref dst :: .int sp :: .ref src :: st) h bc bs := by
  obtain ⟨p, l, e, R, s, m, args, below, meth, c, D, cy, sk, A, n0, ad0, Q⟩ := x
  intro X hf hlc ad H locs ls cells slots hR hl ol os h1 h2
  unfold cpk at hg
  simp only [Bool.and_eq_true, decide_eq_true_eq] at hg
  obtain ⟨a1, a2, a3, a4, a5⟩ := hg
  have hnw : nativeFrameWords "java/lang/System" "arraycopy" 5 + 11 ≤ 56 := by decide
  refine va_copyi (D := D) (ty := .int) X.1 X.2.1 (X.2.2.1.trans hl.1.symm) X.2.2.2.1 (X.2.2.2.2.1 _ hw.1) (X.2.2.2.2.1 _ hw.2.1) (X.2.2.2.2.1 _ hw.2.2.1) (X.2.2.2.2.1 _ hw.2.2.2) X.2.2.2.2.2.1 hR.1 hR.2.1 hR.2.2.1 src dst 1 1 (wl_prim hk (by omega)) (wl_prim hk2 (by omega)) rfl rfl rfl a1 a2 a3 a4 a5 (fun _ _ => rfl) (by omega) (by rw [cat_sum]; omega) hd (fun H1 locs1 hP1 hD1 hS1 => ?_)
  rw [wl_setA_prim hk2 (by omega)] at hP1 hD1
  exact kk X hf hlc ad H1 locs1 ls cells slots ⟨hP1, hD1, hS1, hR.2.2.2.1, hR.2.2.2.2⟩ hl ol os.2.2.2.2.2 h1 h2
end VMORE
