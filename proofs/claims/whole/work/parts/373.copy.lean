/-! A HOUSE IS COPIED -/
section COPY
variable {h : Hp} {A B : Nat}
abbrev CL := List (Nat × Nat × Nat)
/-- of the segments L all stands at A as it stands at B; all else is as it was -/
def cpS (I : Nat → Nat → Int32) (A B : Nat) (L : CL) (J : Nat → Nat → Int32) : Prop := (∀ s, s ∈ L → ∀ k, s.2.1 ≤ k → k < s.2.2 → J (A + s.1) k = I (B + s.1) k) ∧ ∀ a k, (∀ s, s ∈ L → a = A + s.1 → ¬ (s.2.1 ≤ k ∧ k < s.2.2)) → J a k = I a k
theorem cpS_0 (I : Nat → Nat → Int32) : cpS I A B [] I := ⟨(fun s hs => by cases hs), fun _ _ _ => rfl⟩
def okL (L : CL) : Prop := ∀ s, s ∈ L → s.1 < 33
theorem cpS_B {I J : Nat → Nat → Int32} {L : CL} (d : A + 33 ≤ B ∨ B + 33 ≤ A) (c : cpS I A B L J) (ok : okL L) {o : Nat} (ho : o < 33) : J (B + o) = I (B + o) := by
  funext k
  refine c.2 _ _ (fun s hs e => ?_)
  have := ok s hs
  omega
theorem cpS_1 {I J : Nat → Nat → Int32} {L : CL} (d : A + 33 ≤ B ∨ B + 33 ≤ A) (c : cpS I A B L J) (ok : okL L) {o k : Nat} (ho : o < 33) : cpS I A B ((o, k, k + 1) :: L) (up2 J (A + o) k (J (B + o) k)) := by
  rw [cpS_B d c ok ho]
  constructor
  · intro s hs j h1 h2
    by_cases e : s.1 = o ∧ j = k
    · obtain ⟨e1, rfl⟩ := e
      rw [e1, up2_e]
    · rcases List.mem_cons.mp hs with rfl | hs
      · exact absurd ⟨rfl, by have q1 : k ≤ j := h1; have q2 : j < k + 1 := h2; omega⟩ e
      · by_cases e2 : s.1 = o
        · rw [e2, up2_k _ _ _ _ _ (fun q => e ⟨e2, q⟩), ← e2]
          exact c.1 s hs j h1 h2
        · rw [up2_a _ _ _ _ _ (by omega)]
          exact c.1 s hs j h1 h2
  · intro a j hn
    have n0 := hn (o, k, k + 1) (by simp)
    have hn' : ∀ s, s ∈ L → a = A + s.1 → ¬ (s.2.1 ≤ j ∧ j < s.2.2) := fun s hs => hn s (by simp [hs])
    by_cases e : a = A + o
    · subst e
      have : j ≠ k := fun q => n0 rfl ⟨by show k ≤ j; omega, by show j < k + 1; omega⟩
      rw [up2_k _ _ _ _ _ this]
      exact c.2 _ _ hn'
    · rw [up2_a _ _ _ _ _ e]
      exact c.2 _ _ hn'
theorem cpS_n {I J : Nat → Nat → Int32} {L : CL} (d : A + 33 ≤ B ∨ B + 33 ≤ A) (c : cpS I A B L J) (ok : okL L) {o n : Nat} (ho : o < 33) : cpS I A B ((o, 0, n) :: L) (va_up J (A + o) (va_cpy (J (B + o)) (J (A + o)) 0 0 n)) := by
  rw [cpS_B d c ok ho]
  constructor
  · intro s hs j h1 h2
    by_cases e : s.1 = o
    · rw [e, va_e]
      by_cases q : j < n
      · rw [pk_cpy_in (by omega) (by omega), show 0 + (j - 0) = j by omega]
      · rw [pk_cpy_out (by omega)]
        rcases List.mem_cons.mp hs with rfl | hs
        · exact absurd h2 q
        · have := c.1 s hs j h1 h2
          rw [e] at this
          exact this
    · rw [va_n _ _ _ _ (by omega)]
      rcases List.mem_cons.mp hs with rfl | hs
      · exact absurd rfl e
      · exact c.1 s hs j h1 h2
  · intro a j hn
    have n0 := hn (o, 0, n) (by simp)
    have hn' : ∀ s, s ∈ L → a = A + s.1 → ¬ (s.2.1 ≤ j ∧ j < s.2.2) := fun s hs => hn s (by simp [hs])
    by_cases e : a = A + o
    · subst e
      have : ¬ j < n := fun q => n0 rfl ⟨Nat.zero_le _, q⟩
      rw [va_e, pk_cpy_out (by omega)]
      exact c.2 _ _ hn'
    · rw [va_n _ _ _ _ e]
      exact c.2 _ _ hn'
theorem ok_c {L : CL} {o a b : Nat} (ok : okL L) (ho : o < 33) : okL ((o, a, b) :: L) := fun s hs => by
  rcases List.mem_cons.mp hs with rfl | hs
  · exact ho
  · exact ok s hs
theorem ok_0 : okL [] := fun s hs => by cases hs
theorem sI_w (J : Nat → Nat → Int32) (a k : Nat) (v : Int32) : setI (wI h J) a k v = wI h (up2 J a k v) := rfl
theorem cp_w (J : Nat → Nat → Int32) (a b : Nat) {n : Int32} {m : Nat} (e : n.toNatClampNeg = m) : cpA (wI h J) a 0 b 0 n = wI h (va_up J b (va_cpy (J a) (J b) 0 0 m)) := by
  rw [cpA_w (show (0 : Int32).toNatClampNeg = 0 by decide) (show (0 : Int32).toNatClampNeg = 0 by decide) e]
  rfl
theorem cpk8 : cpk (0 : Int32) (0 : Int32) (8 : Int32) 8 8 = true := by decide
theorem cpk20 : cpk (0 : Int32) (0 : Int32) (20 : Int32) 20 20 = true := by decide
theorem cpk400 : cpk (0 : Int32) (0 : Int32) (400 : Int32) 400 400 = true := by decide
def WSh (h : Hp) (a : Nat) : Prop := kd h a = 9 ∧ zR h a 1 = some (a + 1) ∧ kd h (a + 1) = 13 ∧ zl h (a + 1) = 400
theorem x_copyW {a b : Nat} (wa : WSh h a) (wb : WSh h b) (J : Nat → Nat → Int32) : F_X10_copyFrom a b (wI h J) = some ((), wI h (va_up (up2 (up2 J a 0 (J b 0)) a 3 (up2 J a 0 (J b 0) b 3)) (a + 1) (va_cpy (up2 (up2 J a 0 (J b 0)) a 3 (up2 J a 0 (J b 0) b 3) (b + 1)) (up2 (up2 J a 0 (J b 0)) a 3 (up2 J a 0 (J b 0) b 3) (a + 1)) 0 0 400))) := by
  obtain ⟨a1, a2, a3, a4⟩ := wa
  obtain ⟨b1, b2, b3, b4⟩ := wb
  unfold F_X10_copyFrom F_X10_copyFrom_b0
  simp only [sI_w, wI_I, wI_R, wI_k, wI_l, a1, a2, a3, a4, b1, b2, b3, b4, cpk400, cp_w _ _ _ (show (400 : Int32).toNatClampNeg = 400 by decide), gd_t, ob_s, ob2_s, ob4_s, sm_l, sm_r, ac_s, decide_true, decide_false, eq_self, ne_eq, not_false_eq_true, not_true_eq_false, if_true, if_false, ite_true, ite_false, reduceIte, or_true, true_or, or_false, false_or, and_true, true_and, Bool.false_eq_true, reduceCtorEq]
def BSh (h : Hp) (a : Nat) : Prop := kd h a = 0 ∧ zR h a 1 = some (a + 1) ∧ zR h a 2 = some (a + 2) ∧ zR h a 3 = some (a + 3) ∧ kd h (a + 1) = 13 ∧ zl h (a + 1) = 20 ∧ kd h (a + 2) = 13 ∧ zl h (a + 2) = 20 ∧ kd h (a + 3) = 13 ∧ zl h (a + 3) = 20
def cpB (J : Nat → Nat → Int32) (a b : Nat) : Nat → Nat → Int32 := up2 J a 0 (J b 0)
def cpV (J : Nat → Nat → Int32) (a b n : Nat) : Nat → Nat → Int32 := va_up J a (va_cpy (J b) (J a) 0 0 n)
theorem x_copyB {a b : Nat} (wa : BSh h a) (wb : BSh h b) (J : Nat → Nat → Int32) : F_X0_copyFrom a b (wI h J) = some ((), wI h (cpV (cpV (cpV (cpB J a b) (a + 1) (b + 1) 20) (a + 2) (b + 2) 20) (a + 3) (b + 3) 20)) := by
  obtain ⟨a1, a2, a3, a4, a5, a6, a7, a8, a9, a10⟩ := wa
  obtain ⟨b1, b2, b3, b4, b5, b6, b7, b8, b9, b10⟩ := wb
  unfold F_X0_copyFrom F_X0_copyFrom_b0
  simp only [sI_w, wI_I, wI_R, wI_k, wI_l, a1, a2, a3, a4, a5, a6, a7, a8, a9, a10, b1, b2, b3, b4, b5, b6, b7, b8, b9, b10, cpk20, cp_w _ _ _ (show (20 : Int32).toNatClampNeg = 20 by decide), gd_t, ob_s, ob2_s, ob4_s, sm_l, sm_r, ac_s, decide_true, decide_false, eq_self, ne_eq, not_false_eq_true, not_true_eq_false, if_true, if_false, ite_true, ite_false, reduceIte, or_true, true_or, or_false, false_or, and_true, true_and, Bool.false_eq_true, reduceCtorEq]
  rfl
end COPY
