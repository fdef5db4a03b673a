/-! THE WHOLE HOUSE IS COPIED -/
section COPYH
variable {h : Hp} {A B : Nat}
/-- one place -/
def cpO (J : Nat → Nat → Int32) (a b k : Nat) : Nat → Nat → Int32 := up2 J a k (J b k)
theorem sI_f (J : Nat → Nat → Int32) (a b k : Nat) : setI (wI h J) a k (zI (wI h J) b k) = wI h (cpO J a b k) := rfl
theorem cp_f (J : Nat → Nat → Int32) (a b : Nat) {n : Int32} {m : Nat} (e : n.toNatClampNeg = m) : cpA (wI h J) a 0 b 0 n = wI h (cpV J b a m) := cp_w J a b e
theorem f8 (J : Nat → Nat → Int32) (a b : Nat) : cpA (wI h J) a 0 b 0 8 = wI h (cpV J b a 8) := cp_w J a b (by decide)
theorem f5 (J : Nat → Nat → Int32) (a b : Nat) : cpA (wI h J) a 0 b 0 5 = wI h (cpV J b a 5) := cp_w J a b (by decide)
theorem f6 (J : Nat → Nat → Int32) (a b : Nat) : cpA (wI h J) a 0 b 0 6 = wI h (cpV J b a 6) := cp_w J a b (by decide)
theorem f20 (J : Nat → Nat → Int32) (a b : Nat) : cpA (wI h J) a 0 b 0 20 = wI h (cpV J b a 20) := cp_w J a b (by decide)
theorem f400 (J : Nat → Nat → Int32) (a b : Nat) : cpA (wI h J) a 0 b 0 400 = wI h (cpV J b a 400) := cp_w J a b (by decide)
def rW (J : Nat → Nat → Int32) (a b : Nat) : Nat → Nat → Int32 := cpV (cpO (cpO J a b 0) a b 3) (a + 1) (b + 1) 400
def rBk (J : Nat → Nat → Int32) (a b : Nat) : Nat → Nat → Int32 := cpV (cpV (cpV (cpO J a b 0) (a + 1) (b + 1) 20) (a + 2) (b + 2) 20) (a + 3) (b + 3) 20
def rT (J : Nat → Nat → Int32) (a b : Nat) : Nat → Nat → Int32 := cpV (cpV (cpV (cpO J a b 0) (a + 1) (b + 1) 6) (a + 2) (b + 2) 6) (a + 3) (b + 3) 6
theorem x_cpW {a b : Nat} (wa : WSh h a) (wb : WSh h b) (J : Nat → Nat → Int32) : F_X10_copyFrom a b (wI h J) = some ((), wI h (rW J a b)) := x_copyW wa wb J
theorem x_cpB {a b : Nat} (wa : BSh h a) (wb : BSh h b) (J : Nat → Nat → Int32) : F_X0_copyFrom a b (wI h J) = some ((), wI h (rBk J a b)) := x_copyB wa wb J
theorem x_cpT {a b : Nat} (wa : TSh h a) (wb : TSh h b) (J : Nat → Nat → Int32) : F_X8_copyFrom a b (wI h J) = some ((), wI h (rT J a b)) := by
  obtain ⟨a1, a2, a3, a4, a5, a6, a7, a8, a9, a10⟩ := wa
  obtain ⟨b1, b2, b3, b4, b5, b6, b7, b8, b9, b10⟩ := wb
  unfold F_X8_copyFrom F_X8_copyFrom_b0
  simp only [sI_f, f6, wI_R, wI_k, wI_l, a1, a2, a3, a4, a5, a6, a7, a8, a9, a10, b1, b2, b3, b4, b5, b6, b7, b8, b9, b10, cpk6, gd_t, ob_s, ob2_s, ob4_s, sm_l, sm_r, ac_s, decide_true, decide_false, eq_self, ne_eq, not_false_eq_true, not_true_eq_false, if_true, if_false, ite_true, ite_false, reduceIte, or_true, true_or, or_false, false_or, and_true, true_and, Bool.false_eq_true, reduceCtorEq]
  rfl
theorem HS_W (s : HS h A) {g : Nat} (hg : g < 5) : zR h (A + 7) g = some (A + 18 + 3 * g) ∧ WSh h (A + 18 + 3 * g) := by
  unfold HS at s
  unfold WSh
  have c : g = 0 ∨ g = 1 ∨ g = 2 ∨ g = 3 ∨ g = 4 := by omega
  rcases c with rfl | rfl | rfl | rfl | rfl <;> simp only [Nat.add_assoc, Nat.reduceAdd, Nat.reduceMul, s, and_self]
theorem HS_B (s : HS h A) : BSh h (A + 12) := by
  unfold HS at s
  unfold BSh
  simp only [Nat.add_assoc, Nat.reduceAdd, s, and_self]
theorem HS_T (s : HS h A) : TSh h (A + 8) := by
  unfold HS at s
  unfold TSh
  simp only [Nat.add_assoc, Nat.reduceAdd, s, and_self]
theorem HS_k (s : HS h A) : kd h A = 2 ∧ kd h (A + 7) = 15 ∧ zl h (A + 7) = 5 ∧ zR h A 8 = some (A + 7) ∧ zR h A 9 = some (A + 8) ∧ zR h A 16 = some (A + 12) := by
  unfold HS at s
  simp only [s, and_self]
def HV (h : Hp) (A k o n : Nat) : Prop := zR h A k = some (A + o) ∧ kd h (A + o) = 13 ∧ zl h (A + o) = n
theorem HS_v (s : HS h A) : HV h A 1 1 8 ∧ HV h A 2 2 8 ∧ HV h A 3 3 8 ∧ HV h A 4 4 8 ∧ HV h A 6 5 5 ∧ HV h A 7 6 5 ∧ HV h A 18 16 8 ∧ HV h A 19 17 8 := by
  unfold HS at s
  unfold HV
  simp only [s, and_self]
/-- one wish -/
theorem cpH_w (sa : HS h A) (sb : HS h B) {g : Nat} (hg : g < 5) (J : Nat → Nat → Int32) : F_X2_copyFrom_l106 A B (nI g) (wI h J) = some (.inl (nI (g + 1), wI h (rW J (A + 18 + 3 * g) (B + 18 + 3 * g)))) := by
  obtain ⟨a1, a2⟩ := HS_W sa hg
  obtain ⟨b1, b2⟩ := HS_W sb hg
  obtain ⟨c1, c2, c3, c4, _, _⟩ := HS_k sa
  obtain ⟨d1, d2, d3, d4, _, _⟩ := HS_k sb
  have e1 : ¬ (5 : Int32) ≤ nI g := by rw [nl_5]; exact nI_ge hg (by omega)
  unfold F_X2_copyFrom_l106
  rw [if_neg e1, nl_1]
  simp only [nadd, x_cpW a2 b2, wI_R, wI_k, wI_l, c1, c2, c3, c4, d1, d2, d3, d4, ncl (show g < 2147483648 by omega), a1, b1, ix_t hg (show 5 < 2147483648 by omega), a2.1, gd_t, ob_s, ob2_s, ob4_s, sm_l, sm_r, ac_s, decide_true, decide_false, eq_self, ne_eq, not_false_eq_true, not_true_eq_false, if_true, if_false, ite_true, ite_false, reduceIte, or_true, true_or, or_false, false_or, and_true, true_and, Bool.false_eq_true, reduceCtorEq]
theorem cpS_O {I J : Nat → Nat → Int32} {L : CL} (d : A + 33 ≤ B ∨ B + 33 ≤ A) (c : cpS I A B L J ∧ okL L) (o k : Nat) (ho : o < 33) : cpS I A B ((o, k, k + 1) :: L) (cpO J (A + o) (B + o) k) ∧ okL ((o, k, k + 1) :: L) := ⟨cpS_1 d c.1 c.2 ho, ok_c c.2 ho⟩
theorem cpS_V {I J : Nat → Nat → Int32} {L : CL} (d : A + 33 ≤ B ∨ B + 33 ≤ A) (c : cpS I A B L J ∧ okL L) (o n : Nat) (ho : o < 33) : cpS I A B ((o, 0, n) :: L) (cpV J (A + o) (B + o) n) ∧ okL ((o, 0, n) :: L) := ⟨cpS_n d c.1 c.2 ho, ok_c c.2 ho⟩
theorem cpS_W {I J : Nat → Nat → Int32} {L : CL} (d : A + 33 ≤ B ∨ B + 33 ≤ A) (c : cpS I A B L J ∧ okL L) (g : Nat) (hg : g < 5) : cpS I A B ((18 + 3 * g + 1, 0, 400) :: (18 + 3 * g, 3, 4) :: (18 + 3 * g, 0, 1) :: L) (rW J (A + 18 + 3 * g) (B + 18 + 3 * g)) ∧ okL ((18 + 3 * g + 1, 0, 400) :: (18 + 3 * g, 3, 4) :: (18 + 3 * g, 0, 1) :: L) := by
  have e := cpS_V d (cpS_O d (cpS_O d c (18 + 3 * g) 0 (by omega)) (18 + 3 * g) 3 (by omega)) (18 + 3 * g + 1) 400 (by omega)
  unfold rW
  rw [show A + 18 + 3 * g = A + (18 + 3 * g) by omega, show B + 18 + 3 * g = B + (18 + 3 * g) by omega, show A + (18 + 3 * g) + 1 = A + (18 + 3 * g + 1) by omega, show B + (18 + 3 * g) + 1 = B + (18 + 3 * g + 1) by omega]
  exact e
def hd (J : Nat → Nat → Int32) (A B : Nat) : Nat → Nat → Int32 := cpV (cpV (cpO (cpV (cpV (cpV (cpV (cpO J A B 0) (A + 1) (B + 1) 8) (A + 2) (B + 2) 8) (A + 3) (B + 3) 8) (A + 4) (B + 4) 8) A B 5) (A + 5) (B + 5) 5) (A + 6) (B + 6) 5
def hdL : CL := [(6, 0, 5), (5, 0, 5), (0, 5, 6), (4, 0, 8), (3, 0, 8), (2, 0, 8), (1, 0, 8), (0, 0, 1)]
theorem hd_ok (d : A + 33 ≤ B ∨ B + 33 ≤ A) (J : Nat → Nat → Int32) : cpS J A B hdL (hd J A B) ∧ okL hdL :=
  cpS_V d (cpS_V d (cpS_O d (cpS_V d (cpS_V d (cpS_V d (cpS_V d (cpS_O d ⟨cpS_0 J, ok_0⟩ 0 0 (by decide)) 1 8 (by decide)) 2 8 (by decide)) 3 8 (by decide)) 4 8 (by decide)) 0 5 (by decide)) 5 5 (by decide)) 6 5 (by decide)
def tl1 (J : Nat → Nat → Int32) (A B : Nat) : Nat → Nat → Int32 := cpO (cpO (cpO (cpO (cpO (cpO (rT J (A + 8) (B + 8)) A B 10) A B 11) A B 12) A B 13) A B 14) A B 15
def tl2 (J : Nat → Nat → Int32) (A B : Nat) : Nat → Nat → Int32 := cpV (cpV (cpO (rBk J (A + 12) (B + 12)) A B 17) (A + 16) (B + 16) 8) (A + 17) (B + 17) 8
def t1L (L : CL) : CL := (0, 15, 16) :: (0, 14, 15) :: (0, 13, 14) :: (0, 12, 13) :: (0, 11, 12) :: (0, 10, 11) :: (11, 0, 6) :: (10, 0, 6) :: (9, 0, 6) :: (8, 0, 1) :: L
def t2L (L : CL) : CL := (17, 0, 8) :: (16, 0, 8) :: (0, 17, 18) :: (15, 0, 20) :: (14, 0, 20) :: (13, 0, 20) :: (12, 0, 1) :: L
theorem t1_ok {I J : Nat → Nat → Int32} {L : CL} (d : A + 33 ≤ B ∨ B + 33 ≤ A) (c : cpS I A B L J ∧ okL L) : cpS I A B (t1L L) (tl1 J A B) ∧ okL (t1L L) :=
  cpS_O d (cpS_O d (cpS_O d (cpS_O d (cpS_O d (cpS_O d (cpS_V d (cpS_V d (cpS_V d (cpS_O d c 8 0 (by decide)) 9 6 (by decide)) 10 6 (by decide)) 11 6 (by decide)) 0 10 (by decide)) 0 11 (by decide)) 0 12 (by decide)) 0 13 (by decide)) 0 14 (by decide)) 0 15 (by decide)
theorem t2_ok {I J : Nat → Nat → Int32} {L : CL} (d : A + 33 ≤ B ∨ B + 33 ≤ A) (c : cpS I A B L J ∧ okL L) : cpS I A B (t2L L) (tl2 J A B) ∧ okL (t2L L) :=
  cpS_V d (cpS_V d (cpS_O d (cpS_V d (cpS_V d (cpS_V d (cpS_O d c 12 0 (by decide)) 13 20 (by decide)) 14 20 (by decide)) 15 20 (by decide)) 0 17 (by decide)) 16 8 (by decide)) 17 8 (by decide)
def wn (A B : Nat) (J : Nat → Nat → Int32) : Nat → Nat → Nat → Int32
  | 0 => J
  | g + 1 => rW (wn A B J g) (A + 18 + 3 * g) (B + 18 + 3 * g)
def wlL (L : CL) : Nat → CL
  | 0 => L
  | g + 1 => (18 + 3 * g + 1, 0, 400) :: (18 + 3 * g, 3, 4) :: (18 + 3 * g, 0, 1) :: wlL L g
theorem wn_ok {I J : Nat → Nat → Int32} {L : CL} (d : A + 33 ≤ B ∨ B + 33 ≤ A) (c : cpS I A B L J ∧ okL L) : ∀ g, g ≤ 5 → cpS I A B (wlL L g) (wn A B J g) ∧ okL (wlL L g)
  | 0, _ => c
  | g + 1, hg => cpS_W d (wn_ok d c g (by omega)) g (by omega)
theorem cpH_l (sa : HS h A) (sb : HS h B) (J : Nat → Nat → Int32) : iter (fun z : Int32 × Hp => F_X2_copyFrom_l106 A B z.1 z.2) FU ((0 : Int32), wI h J) = some (wI h (wn A B J 5)) := by
  have key := iter_cnt (body := fun z : Int32 × Hp => F_X2_copyFrom_l106 A B z.1 z.2) (s0 := ((0 : Int32), wI h J)) (fun j z => z = (nI j, wI h (wn A B J j))) (fun x => x = wI h (wn A B J 5)) 5 (fun j z hj e => ?_) (fun z e => ?_) rfl (fuel := FU) (by decide)
  · obtain ⟨x, e1, e2⟩ := key
    rw [e1, e2]
  · subst e
    exact ⟨_, cpH_w sa sb hj _, rfl⟩
  · subst e
    refine ⟨_, ?_, rfl⟩
    show F_X2_copyFrom_l106 A B (nI 5) _ = _
    unfold F_X2_copyFrom_l106
    rw [if_pos (by decide)]
def LH : CL := t2L (t1L (wlL hdL 5))
theorem x_cpH (sa : HS h A) (sb : HS h B) (d : A + 33 ≤ B ∨ B + 33 ≤ A) (J : Nat → Nat → Int32) : ∃ J2, F_X2_copyFrom A B (wI h J) = some ((), wI h J2) ∧ cpS J A B LH J2 := by
  refine ⟨tl2 (tl1 (wn A B (hd J A B) 5) A B) A B, ?_, (t2_ok d (t1_ok d (wn_ok d (hd_ok d J) 5 (Nat.le_refl 5)))).1⟩
  obtain ⟨⟨a1, a2, a3⟩, ⟨a4, a5, a6⟩, ⟨a7, a8, a9⟩, ⟨a10, a11, a12⟩, ⟨a13, a14, a15⟩, ⟨a16, a17, a18⟩, ⟨a19, a20, a21⟩, ⟨a22, a23, a24⟩⟩ := HS_v sa
  obtain ⟨⟨b1, b2, b3⟩, ⟨b4, b5, b6⟩, ⟨b7, b8, b9⟩, ⟨b10, b11, b12⟩, ⟨b13, b14, b15⟩, ⟨b16, b17, b18⟩, ⟨b19, b20, b21⟩, ⟨b22, b23, b24⟩⟩ := HS_v sb
  obtain ⟨c1, c2, c3, c4, c5, c6⟩ := HS_k sa
  obtain ⟨d1, d2, d3, d4, d5, d6⟩ := HS_k sb
  unfold F_X2_copyFrom F_X2_copyFrom_b0
  simp only [sI_f, f8, f5, wI_R, wI_k, wI_l, cpk8, cpk5, a1, a2, a3, a4, a5, a6, a7, a8, a9, a10, a11, a12, a13, a14, a15, a16, a17, a18, b1, b2, b3, b4, b5, b6, b7, b8, b9, b10, b11, b12, b13, b14, b15, b16, b17, b18, c1, d1, gd_t, ob_s, ob2_s, ob4_s, sm_l, sm_r, ac_s, decide_true, decide_false, eq_self, ne_eq, not_false_eq_true, not_true_eq_false, if_true, if_false, ite_true, ite_false, reduceIte, or_true, true_or, or_false, false_or, and_true, true_and, Bool.false_eq_true, reduceCtorEq]
  rw [cpH_l sa sb, ob_s]
  simp only [wI_R, wI_k, wI_l, c1, d1, c5, d5, x_cpT (HS_T sa) (HS_T sb), (HS_T sa).1, gd_t, ob_s, ob2_s, ob4_s, sm_l, sm_r, ac_s, decide_true, decide_false, eq_self, ne_eq, not_false_eq_true, not_true_eq_false, if_true, if_false, ite_true, ite_false, reduceIte, or_true, true_or, or_false, false_or, and_true, true_and, Bool.false_eq_true, reduceCtorEq]
  simp only [sI_f, wI_R, wI_k, wI_l, c1, d1, c6, d6, x_cpB (HS_B sa) (HS_B sb), (HS_B sa).1, gd_t, ob_s, ob2_s, ob4_s, sm_l, sm_r, ac_s, decide_true, decide_false, eq_self, ne_eq, not_false_eq_true, not_true_eq_false, if_true, if_false, ite_true, ite_false, reduceIte, or_true, true_or, or_false, false_or, and_true, true_and, Bool.false_eq_true, reduceCtorEq]
  simp only [sI_f, f8, wI_R, wI_k, wI_l, cpk8, c1, d1, a19, a20, a21, a22, a23, a24, b19, b20, b21, b22, b23, b24, gd_t, ob_s, ob2_s, ob4_s, sm_l, sm_r, ac_s, decide_true, decide_false, eq_self, ne_eq, not_false_eq_true, not_true_eq_false, if_true, if_false, ite_true, ite_false, reduceIte, or_true, true_or, or_false, false_or, and_true, true_and, Bool.false_eq_true, reduceCtorEq]
  rfl
end COPYH
