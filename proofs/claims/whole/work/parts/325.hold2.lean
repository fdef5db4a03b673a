/-! WISHES: the class's holding, its run -/
theorem iter_st {S X : Type} {body : S → Option (S ⊕ X)} {s s' : S} (h : body s = some (.inl s')) (n : Nat) : iter body (n + 1) s = iter body n s' := by
  conv => lhs; unfold iter
  rw [h]
theorem iter_en {S X : Type} {body : S → Option (S ⊕ X)} {s : S} {x : X} (h : body s = some (.inr x)) (n : Nat) : iter body (n + 1) s = some x := by
  conv => lhs; unfold iter
  rw [h]
section HOLD2
variable {h : Hp} {f : Nat → Int32}
def hB (v0 v1 : Nat) (v2 : Int32) (v3 : Nat) : Int32 × Int32 × Int32 × Hp → Option ((Int32 × Int32 × Int32 × Hp) ⊕ (Int32 × Hp)) := fun z => F_X10_holding_l9 v0 v1 v2 v3 z.1 z.2.1 z.2.2.1 z.2.2.2
theorem nsub1 {n : Nat} (h : 1 ≤ n) : nI n + (-1) = nI (n - 1) := by
  obtain ⟨m, rfl⟩ : ∃ m, n = m + 1 := ⟨n - 1, by omega⟩
  have : nI (m + 1) + (-1 : Int32) = nI (m + 1) - 1 := (Int32.sub_eq_add_neg _ _).symm
  rw [this, nI_pred]
  rfl
theorem npred {n : Nat} (h : 1 ≤ n) : nI n - 1 = nI (n - 1) := by
  obtain ⟨m, rfl⟩ : ∃ m, n = m + 1 := ⟨n - 1, by omega⟩
  rw [nI_pred]
  rfl
/-- one step of the class -/
theorem x_hst (s : Sh h) (i : Inv f) (c : HR (zI h) 3 f) {Q : Nat} (hk : kd h Q = 13) (hl : zl h Q = 5) {sf : Nat → Nat} (hs : seated h Q (nG f) sf) {g : Nat} (hg : g < nG f) (hQ : Q ≠ 23 + 3 * g) {k n : Int32} {ty ty' : List Bool} {st : List Int32} (hty : tyS k n ty = some ty') (hv : tyV ty st) {M : Nat → Int32} (hM : memS M st) {x z : Nat} (hx : x < z) (hz : z ≤ 400) (ez : zI h (21 + 3 * g) 3 = nI z) (ec : zI h (22 + 3 * g) x = cod k n) (hl32 : st.length ≤ 32) (b : Int32) : ∃ M', hB (21 + 3 * g) 3 (nI g) Q (b, nI st.length, nI x, stH h (23 + 3 * g) M) = some (.inl (b, nI (evS (faS f sf g) k n st).length, nI (x + 1), stH h (23 + 3 * g) M')) ∧ memS M' (evS (faS f sf g) k n st) ∧ tyV ty' (evS (faS f sf g) k n st) ∧ (evS (faS f sf g) k n st).length ≤ 32 := by
  have g5 := iG5 i
  obtain ⟨w1, w2, w3, w4, w5, w6, w7⟩ := kWg s (show g < 5 by omega)
  have s' : Sh (stH h (23 + 3 * g) M) := s
  have c' := stH_c (M := M) (show g < 5 by omega) i c
  have hs' : seated (stH h (23 + 3 * g) M) Q (nG f) sf := fun j hj => by
    rw [stH_o hQ]
    exact hs j hj
  have ez' : zI (stH h (23 + 3 * g) M) (21 + 3 * g) 3 = nI z := by rw [stH_o (by omega), ez]
  have ec' : zI (stH h (23 + 3 * g) M) (22 + 3 * g) x = cod k n := by rw [stH_o (by omega), ec]
  have v1 : kd (stH h (23 + 3 * g) M) (21 + 3 * g) = 9 := w1
  have v2 : zR (stH h (23 + 3 * g) M) (21 + 3 * g) 1 = some (22 + 3 * g) := w2
  have v3 : zR (stH h (23 + 3 * g) M) (21 + 3 * g) 2 = some (23 + 3 * g) := w3
  have v4 : kd (stH h (23 + 3 * g) M) (22 + 3 * g) = 13 := w4
  have v5 : zl (stH h (23 + 3 * g) M) (22 + 3 * g) = 400 := w5
  have v6 : kd (stH h (23 + 3 * g) M) (23 + 3 * g) = 13 := w6
  have v7 : zl (stH h (23 + 3 * g) M) (23 + 3 * g) = 32 := w7
  show ∃ M', F_X10_holding_l9 (21 + 3 * g) 3 (nI g) Q b (nI st.length) (nI x) (stH h (23 + 3 * g) M) = _ ∧ _
  unfold F_X10_holding_l9
  rw [gd_d v1, ez', if_neg (nI_ge hx (by omega)), v2, ob_s, gd_d v4, v5, ix_t (by omega) (by omega), gd_t, ncl (by omega), ec']
  rcases ev_cases (f := f) (sf := sf) (g := g) hty hv with ⟨hf, q1, q2, q3⟩ | ⟨rfl, a, r, rfl, ha, q2, q3⟩ | ⟨hf, b', a, r, rfl, q2, q3⟩
  · refine ⟨va_up M st.length (faS f sf g k n), ?_, by rw [q2]; exact memS_push hM, by rw [q2]; exact q3, by rw [q2]; show st.length + 1 ≤ 32; omega⟩
    have e39 : F_X10_holding_b39 (21 + 3 * g) 3 (nI g) Q b (nI st.length) (nI x) (cod k n) (stH h (23 + 3 * g) M) = some (.inl (b, nI (evS (faS f sf g) k n st).length, nI (x + 1), stH h (23 + 3 * g) (va_up M st.length (faS f sf g k n)))) := by
      unfold F_X10_holding_b39 F_X10_holding_b177
      rw [gd_d v1, v3, ob_s, gd_d v6, v7, if_neg (show ¬ (Int32.ofNat 32 ≤ nI st.length) from nI_ge q1 (by omega)), ob_s, x_val s' i c' hk hl hs' hg hf, ob_s, gd_d v6, v7, ix_t q1 (by omega), gd_t, ncl (by omega), stH_w, nI_1, nI_1, q2]
      rfl
    rcases cod_fact hf with q | ⟨q, w⟩
    · rw [if_pos q, e39]
    · rw [if_neg q, if_neg w, e39]
  · refine ⟨va_up M r.length (1 - a), ?_, by rw [q2]; exact ⟨va_e _ _ _, memS_up (Nat.le_refl _) hM.2⟩, by rw [q2]; exact q3, by rw [q2]; exact hl32⟩
    have e1 : cod 13 n = -6 := rfl
    have el : (a :: r).length = r.length + 1 := rfl
    unfold F_X10_holding_b177
    rw [e1, if_neg (by decide), if_pos (by decide), if_neg (by decide), if_pos rfl, el, if_neg (nI_nle (by omega) (by simp only [List.length_cons] at hl32; omega)), v3, ob_s, ob_s, gd_d v6, v7, nI_pred, ix_t (by simp only [List.length_cons] at hl32; omega) (by omega), gd_t, gd_d v6, gd_t, ncl (by simp only [List.length_cons] at hl32; omega), stH_e, hM.1, stH_w, nI_1, q2]
    rfl
  · have el : (b' :: a :: r).length = r.length + 2 := rfl
    have lr : r.length + 2 ≤ 32 := hl32
    have hj : k = 10 ∨ k = 11 ∨ k = 12 ∨ ((k = 14 ∨ k = 15) ∧ (a = 0 ∨ a = 1) ∧ (b' = 0 ∨ b' = 1)) := by
      rcases hf with hf | hf | hf | ⟨hf, b2, a2, r2, e, h1, h2⟩
      · exact Or.inl hf
      · exact Or.inr (Or.inl hf)
      · exact Or.inr (Or.inr (Or.inl hf))
      · cases e
        exact Or.inr (Or.inr (Or.inr ⟨hf, h1, h2⟩))
    have hc : ¬ (0 : Int32) ≤ cod k n ∧ (-8 : Int32) < cod k n ∧ ¬ cod k n = -7 ∧ ¬ cod k n = -6 := by
      rcases hj with rfl | rfl | rfl | ⟨rfl | rfl, -⟩
      · show ¬ (0 : Int32) ≤ -1 ∧ (-8 : Int32) < -1 ∧ ¬ (-1 : Int32) = -7 ∧ ¬ (-1 : Int32) = -6; decide
      · show ¬ (0 : Int32) ≤ -2 ∧ (-8 : Int32) < -2 ∧ ¬ (-2 : Int32) = -7 ∧ ¬ (-2 : Int32) = -6; decide
      · show ¬ (0 : Int32) ≤ -3 ∧ (-8 : Int32) < -3 ∧ ¬ (-3 : Int32) = -7 ∧ ¬ (-3 : Int32) = -6; decide
      · show ¬ (0 : Int32) ≤ -4 ∧ (-8 : Int32) < -4 ∧ ¬ (-4 : Int32) = -7 ∧ ¬ (-4 : Int32) = -6; decide
      · show ¬ (0 : Int32) ≤ -5 ∧ (-8 : Int32) < -5 ∧ ¬ (-5 : Int32) = -7 ∧ ¬ (-5 : Int32) = -6; decide
    refine ⟨va_up M r.length (jnS k a b'), ?_, by rw [q2]; exact ⟨va_e _ _ _, memS_up (Nat.le_refl _) hM.2.2⟩, by rw [q2]; exact q3, by rw [q2]; show r.length + 1 ≤ 32; omega⟩
    have m1 : M (r.length + 1) = b' := hM.1
    have m2 : M r.length = a := hM.2.1
    unfold F_X10_holding_b177
    rw [if_neg hc.1, if_pos hc.2.1, if_neg hc.2.2.1, if_neg hc.2.2.2, el, if_neg (show ¬ nI (r.length + 2) ≤ 1 from nI_ge (a := 1) (by omega) (by omega)), v3, ob_s, ob_s, gd_d v6, v7, nsub1 (by omega), npred (by omega), show r.length + 2 - 1 - 1 = r.length by omega, show r.length + 2 - 1 = r.length + 1 by omega, ix_t (by omega) (by omega), gd_t, ob_s, gd_d v6, v7, ix_t (show r.length + 1 < 32 by omega) (by omega), gd_t, ncl (by omega), ncl (by omega), stH_e, m1, m2, x_join hj, ob_s, gd_d v6, gd_t, stH_w, nI_1, q2]
    rfl
/-- the steps of one wish -/
theorem x_hru (s : Sh h) (i : Inv f) (c : HR (zI h) 3 f) {Q : Nat} (hk : kd h Q = 13) (hl : zl h Q = 5) {sf : Nat → Nat} (hs : seated h Q (nG f) sf) {g : Nat} (hg : g < nG f) (hQ : Q ≠ 23 + 3 * g) {z : Nat} (hz : z ≤ 400) (ez : zI h (21 + 3 * g) 3 = nI z) (b : Int32) (m : Nat → Int32) (w : Nat) : ∀ (n x : Nat) (st : List Int32) (ty ty' : List Bool) (M : Nat → Int32), tyR m x n ty = some ty' → tyV ty st → memS M st → st.length ≤ 32 → x + n + w ≤ z → (∀ j, x ≤ j → j < x + n → zI h (22 + 3 * g) (j + w) = cod (m (17 + 2 * j)) (m (18 + 2 * j))) → ∃ M', memS M' (evR (faS f sf g) m x n st) ∧ tyV ty' (evR (faS f sf g) m x n st) ∧ ∀ fuel, iter (hB (21 + 3 * g) 3 (nI g) Q) (fuel + n) (b, nI st.length, nI (x + w), stH h (23 + 3 * g) M) = iter (hB (21 + 3 * g) 3 (nI g) Q) fuel (b, nI (evR (faS f sf g) m x n st).length, nI (x + n + w), stH h (23 + 3 * g) M')
  | 0, x, st, ty, ty', M, ht, hv, hM, _, _, _ => by
    cases ht
    exact ⟨M, hM, hv, fun fuel => rfl⟩
  | n + 1, x, st, ty, ty', M, ht, hv, hM, h32, hb, hc => by
    unfold tyR at ht
    cases e : tyS (m (17 + 2 * x)) (m (18 + 2 * x)) ty with
    | none =>
      rw [e] at ht
      cases ht
    | some ty2 =>
      rw [e, ob_s] at ht
      obtain ⟨M1, a1, a2, a3, a4⟩ := x_hst s i c hk hl hs hg hQ e hv hM (show x + w < z by omega) hz ez (hc x (by omega) (by omega)) h32 b
      obtain ⟨M2, b1, b2, b3⟩ := x_hru s i c hk hl hs hg hQ hz ez b m w n (x + 1) _ ty2 ty' M1 ht a3 a2 a4 (by omega) (fun j h1 h2 => hc j (by omega) (by omega))
      refine ⟨M2, b1, b2, fun fuel => ?_⟩
      rw [← Nat.add_assoc, iter_st a1, show x + w + 1 = x + 1 + w by omega, b3, show x + 1 + n + w = x + (n + 1) + w by omega]
      rfl
def hdV : List Int32 → Int32
  | v :: _ => v
  | [] => 0
def wvV (fa : Int32 → Int32 → Int32) (m : Nat → Int32) (w : Nat) : Int32 := hdV (evR fa m (wN m (1 + 2 * w)) (wN m (2 + 2 * w) - wN m (1 + 2 * w)) [])
def metV (fa : Int32 → Int32 → Int32) (m : Nat → Int32) (n : Nat) : Int32 := accN 0 (wvV fa m) n
theorem ty1 {st : List Int32} (h : tyV [true] st) : ∃ v, st = [v] ∧ (v = 0 ∨ v = 1) := by
  obtain ⟨v, r, rfl, h1, h2⟩ := tyV_c h
  cases r with
  | nil => exact ⟨v, rfl, h1 rfl⟩
  | cons a t => exact absurd h2 id
/-- how far the codes go when w wishes are through -/
def wAt (m : Nat → Int32) (w : Nat) : Nat := if w = 0 then 0 else wN m (2 * w) + w
theorem x_hws (s : Sh h) (i : Inv f) (c : HR (zI h) 3 f) {Q : Nat} (hk : kd h Q = 13) (hl : zl h Q = 5) {sf : Nat → Nat} (hs : seated h Q (nG f) sf) {g : Nat} (hg : g < nG f) (hQ : Q ≠ 23 + 3 * g) : ∀ w, w ≤ wN (fun k => f (147 + 817 * g + k)) 0 → ∃ M, wAt (fun k => f (147 + 817 * g + k)) w ≤ wEnd (fun k => f (147 + 817 * g + k)) ∧ ∀ fuel, iter (hB (21 + 3 * g) 3 (nI g) Q) (fuel + wAt (fun k => f (147 + 817 * g + k)) w) (0, 0, 0, h) = iter (hB (21 + 3 * g) 3 (nI g) Q) fuel (metV (faS f sf g) (fun k => f (147 + 817 * g + k)) w, 0, nI (wAt (fun k => f (147 + 817 * g + k)) w), stH h (23 + 3 * g) M) := by
  intro w hw
  have g5 := iG5 i
  obtain ⟨ok, wr1, wr2, wr3⟩ := HR_ws c g hg
  obtain ⟨o1, o2, o3⟩ := ok
  obtain ⟨w1, w2, w3, w4, w5, w6, w7⟩ := kWg s (show g < 5 by omega)
  have ez : zI h (21 + 3 * g) 3 = nI (wEnd (fun k => f (147 + 817 * g + k))) := wr2
  have mono : ∀ v, v + 1 ≤ wN (fun k => f (147 + 817 * g + k)) 0 → wN (fun k => f (147 + 817 * g + k)) (2 * (v + 1)) + (v + 1) ≤ wEnd (fun k => f (147 + 817 * g + k)) := by
    intro v hv
    have key : ∀ d, v + 1 + d ≤ wN (fun k => f (147 + 817 * g + k)) 0 → wN (fun k => f (147 + 817 * g + k)) (2 * (v + 1)) + (v + 1) ≤ wN (fun k => f (147 + 817 * g + k)) (2 * (v + 1 + d)) + (v + 1 + d) := by
      intro d
      induction d with
      | zero => intro _; exact Nat.le_refl _
      | succ d ih =>
        intro hd
        have a := ih (by omega)
        obtain ⟨-, -, b3, -, b5, -⟩ := o3 (v + 1 + d) (by omega)
        rw [if_neg (by omega)] at b5
        rw [show 2 + 2 * (v + 1 + d) = 2 * (v + 1 + (d + 1)) by omega] at b3
        omega
    have := key (wN (fun k => f (147 + 817 * g + k)) 0 - (v + 1)) (by omega)
    rw [show v + 1 + (wN (fun k => f (147 + 817 * g + k)) 0 - (v + 1)) = wN (fun k => f (147 + 817 * g + k)) 0 by omega] at this
    unfold wEnd
    rw [if_neg (by omega)]
    exact this
  have hz : wEnd (fun k => f (147 + 817 * g + k)) ≤ 400 := by
    unfold wEnd
    by_cases z : wN (fun k => f (147 + 817 * g + k)) 0 = 0
    · rw [if_pos z]; omega
    · rw [if_neg z]
      obtain ⟨-, -, -, b4, -, -⟩ := o3 (wN (fun k => f (147 + 817 * g + k)) 0 - 1) (by omega)
      rw [show 2 + 2 * (wN (fun k => f (147 + 817 * g + k)) 0 - 1) = 2 * wN (fun k => f (147 + 817 * g + k)) 0 by omega] at b4
      omega
  induction w with
  | zero =>
    refine ⟨zI h (23 + 3 * g), Nat.zero_le _, fun fuel => ?_⟩
    unfold stH
    rw [va_same]
    rfl
  | succ v ih =>
    obtain ⟨M, hle, run⟩ := ih (by omega)
    obtain ⟨b1, b2, b3, b4, b5, b6⟩ := o3 v (by omega)
    obtain ⟨d1, d2⟩ := wr3 v (by omega)
    have es : wAt (fun k => f (147 + 817 * g + k)) (v + 1) = wN (fun k => f (147 + 817 * g + k)) (2 + 2 * v) + v + 1 := by
      unfold wAt
      rw [if_neg (by omega), show 2 * (v + 1) = 2 + 2 * v by omega, Nat.add_assoc]
    have ea : wAt (fun k => f (147 + 817 * g + k)) v = wN (fun k => f (147 + 817 * g + k)) (1 + 2 * v) + v := by
      unfold wAt
      rw [b5]
      by_cases z : v = 0
      · rw [if_pos z, if_pos z, z]
      · rw [if_neg z, if_neg z]
    have mo := mono v (by omega)
    rw [show 2 * (v + 1) = 2 + 2 * v by omega] at mo
    obtain ⟨M2, r1, r2, r3⟩ := x_hru s i c hk hl hs hg hQ hz ez (metV (faS f sf g) (fun k => f (147 + 817 * g + k)) v) (fun k => f (147 + 817 * g + k)) v _ _ [] [] [true] M b6 trivial trivial (by show 0 ≤ 32; omega) (by omega) (fun j h1 h2 => d2 j h1 (by omega))
    obtain ⟨val, e1, e2⟩ := ty1 r2
    refine ⟨M2, by rw [es]; omega, fun fuel => ?_⟩
    rw [es, show fuel + (wN (fun k => f (147 + 817 * g + k)) (2 + 2 * v) + v + 1) = (fuel + 1 + (wN (fun k => f (147 + 817 * g + k)) (2 + 2 * v) - wN (fun k => f (147 + 817 * g + k)) (1 + 2 * v))) + wAt (fun k => f (147 + 817 * g + k)) v by rw [ea]; omega, run, ea]
    refine (r3 (fuel + 1)).trans ?_
    rw [e1] at r1
    have ev : wvV (faS f sf g) (fun k => f (147 + 817 * g + k)) v = val := by
      unfold wvV
      rw [e1]
      rfl
    refine iter_st ?_ fuel
    rw [e1, show wN (fun k => f (147 + 817 * g + k)) (1 + 2 * v) + (wN (fun k => f (147 + 817 * g + k)) (2 + 2 * v) - wN (fun k => f (147 + 817 * g + k)) (1 + 2 * v)) + v = wN (fun k => f (147 + 817 * g + k)) (2 + 2 * v) + v by omega]
    show F_X10_holding_l9 (21 + 3 * g) 3 (nI g) Q (metV (faS f sf g) (fun k => f (147 + 817 * g + k)) v) (nI 1) (nI (wN (fun k => f (147 + 817 * g + k)) (2 + 2 * v) + v)) (stH h (23 + 3 * g) M2) = some (.inl (metV (faS f sf g) (fun k => f (147 + 817 * g + k)) v + wvV (faS f sf g) (fun k => f (147 + 817 * g + k)) v, 0, _, _))
    have v1 : kd (stH h (23 + 3 * g) M2) (21 + 3 * g) = 9 := w1
    have v2 : zR (stH h (23 + 3 * g) M2) (21 + 3 * g) 1 = some (22 + 3 * g) := w2
    have v3 : zR (stH h (23 + 3 * g) M2) (21 + 3 * g) 2 = some (23 + 3 * g) := w3
    have v4 : kd (stH h (23 + 3 * g) M2) (22 + 3 * g) = 13 := w4
    have v5 : zl (stH h (23 + 3 * g) M2) (22 + 3 * g) = 400 := w5
    have v6 : kd (stH h (23 + 3 * g) M2) (23 + 3 * g) = 13 := w6
    have v7 : zl (stH h (23 + 3 * g) M2) (23 + 3 * g) = 32 := w7
    have ez' : zI (stH h (23 + 3 * g) M2) (21 + 3 * g) 3 = nI (wEnd (fun k => f (147 + 817 * g + k))) := by rw [stH_o (by omega), ez]
    have ec' : zI (stH h (23 + 3 * g) M2) (22 + 3 * g) (wN (fun k => f (147 + 817 * g + k)) (2 + 2 * v) + v) = -7 := by
      rw [stH_o (by omega)]
      exact d1
    have em : M2 0 = val := r1.1
    unfold F_X10_holding_l9 F_X10_holding_b94 F_X10_holding_b177
    rw [gd_d v1, ez', if_neg (nI_ge (by omega) (by omega)), v2, ob_s, gd_d v4, v5, ix_t (by omega) (by omega), gd_t, ncl (by omega), ec', if_neg (by decide), if_pos (by decide), if_pos rfl, if_neg (by decide), v3, ob_s, gd_d v6, v7, show ix (0 : Int32) 32 = true by decide, gd_t, stH_e, show (0 : Int32).toNatClampNeg = 0 by decide, em, nI_1, ev]
theorem x_holding (s : Sh h) (i : Inv f) (c : HR (zI h) 3 f) {Q : Nat} (hk : kd h Q = 13) (hl : zl h Q = 5) {sf : Nat → Nat} (hs : seated h Q (nG f) sf) {g : Nat} (hg : g < nG f) (hQ : Q ≠ 23 + 3 * g) : ∃ M, F_X10_holding (21 + 3 * g) 3 (nI g) Q h = some (metV (faS f sf g) (fun k => f (147 + 817 * g + k)) (wN (fun k => f (147 + 817 * g + k)) 0), stH h (23 + 3 * g) M) := by
  have g5 := iG5 i
  obtain ⟨M, hle, run⟩ := x_hws s i c hk hl hs hg hQ _ (Nat.le_refl _)
  obtain ⟨ok, wr1, wr2, wr3⟩ := HR_ws c g hg
  obtain ⟨w1, w2, w3, w4, w5, w6, w7⟩ := kWg s (show g < 5 by omega)
  have ez : zI h (21 + 3 * g) 3 = nI (wEnd (fun k => f (147 + 817 * g + k))) := wr2
  have ee : wEnd (fun k => f (147 + 817 * g + k)) = wAt (fun k => f (147 + 817 * g + k)) (wN (fun k => f (147 + 817 * g + k)) 0) := rfl
  have hz : wEnd (fun k => f (147 + 817 * g + k)) ≤ 400 := by
    unfold wEnd
    by_cases z : wN (fun k => f (147 + 817 * g + k)) 0 = 0
    · rw [if_pos z]; omega
    · rw [if_neg z]
      obtain ⟨-, -, -, b4, -, -⟩ := ok.2.2 (wN (fun k => f (147 + 817 * g + k)) 0 - 1) (by omega)
      rw [show 2 + 2 * (wN (fun k => f (147 + 817 * g + k)) 0 - 1) = 2 * wN (fun k => f (147 + 817 * g + k)) 0 by omega] at b4
      omega
  refine ⟨M, ?_⟩
  unfold F_X10_holding F_X10_holding_b0
  refine (ob_p (a := (metV (faS f sf g) (fun k => f (147 + 817 * g + k)) (wN (fun k => f (147 + 817 * g + k)) 0), stH h (23 + 3 * g) M)) ?_ _).trans rfl
  have hF : ∃ d, FU = d + 1 + wAt (fun k => f (147 + 817 * g + k)) (wN (fun k => f (147 + 817 * g + k)) 0) := ⟨FU - 1 - wAt (fun k => f (147 + 817 * g + k)) (wN (fun k => f (147 + 817 * g + k)) 0), by have : 1000000000 ≤ FU := Nat.le_refl _; omega⟩
  obtain ⟨d, hF⟩ := hF
  rw [hF]
  refine (run (d + 1)).trans (iter_en ?_ d)
  show F_X10_holding_l9 (21 + 3 * g) 3 (nI g) Q _ 0 (nI (wAt (fun k => f (147 + 817 * g + k)) (wN (fun k => f (147 + 817 * g + k)) 0))) (stH h (23 + 3 * g) M) = _
  have v1 : kd (stH h (23 + 3 * g) M) (21 + 3 * g) = 9 := w1
  have ez' : zI (stH h (23 + 3 * g) M) (21 + 3 * g) 3 = nI (wEnd (fun k => f (147 + 817 * g + k))) := by rw [stH_o (by omega), ez]
  unfold F_X10_holding_l9
  rw [gd_d v1, ez', ← ee, if_pos (Int32.le_refl _)]
end HOLD2
