/-! WISHES: codes and steps -/
section EMIT
variable {h : Hp} {b : Nat → Int32} {n : Nat} {F : Nat → Int32} {J K J' K' J'' K'' : Nat → Nat → Int32} {G G' G'' : Nat → Int32}
theorem k38 (s : Sh h) : kd h 38 = 9 ∧ zR h 38 1 = some 39 ∧ kd h 39 = 13 ∧ zl h 39 = 400 := by unfold Sh at s; simp only [s, and_self]
def pJ (J : Nat → Nat → Int32) (z : Nat) (c : Int32) : Nat → Nat → Int32 := up2 (up2 J 39 z c) 38 3 (nI (z + 1))
def eK (K : Nat → Nat → Int32) (st : Nat) (k v : Int32) : Nat → Nat → Int32 := up2 (up2 K 60 (4249 + 2 * st) k) 60 (4250 + 2 * st) v
def eG (G : Nat → Int32) (st : Nat) : Nat → Int32 := va_up G 13 (nI (st + 1))
theorem x_cput (s : Sh h) {z q : Nat} {t w : Int32} (e3 : J 38 3 = nI z) (hz : z < 400) (c : Int32) : F_X10_put 38 c (cT h b n J F q t w) = some (1, cT h b n (pJ J z c) F q t w) := by
  obtain ⟨a1, a2, a3, a4⟩ := k38 s
  have n400 : ¬ Int32.ofNat 400 ≤ nI z := nI_ge (b := 400) hz (by omega)
  unfold F_X10_put F_X10_put_b0 F_X10_put_b32
  simp (disch := decide) only [cT_k, cT_R, cT_l, a1, a2, a3, a4, cT_a, e3, if_neg n400, ix_t hz (show 400 < 2147483648 by omega), ncl (show z < 2147483648 by omega), cT_seta, up2_a, nS_1, gd_t, ob_s, ob2_s, ob4_s, sm_l, sm_r, ac_s, decide_true, decide_false, eq_self, ne_eq, not_false_eq_true, not_true_eq_false, if_true, if_false, ite_true, ite_false, reduceIte, or_true, true_or, or_false, false_or, and_true, true_and, Bool.false_eq_true, reduceCtorEq]
  rfl
theorem m_sG {p g k : Nat} (v : Int32) (h7 : k ≠ 7) (h9 : k ≠ 9) : setI (rfT h K G p g) 59 k v = rfT h K (va_up G k v) p g := by
  unfold rfT
  rw [rfS_set]
  congr 1
  funext j
  by_cases e : j = k
  · subst e
    rw [va_e, rF_o h7 h9, va_e]
  · rw [va_o _ _ e]
    unfold rF
    by_cases e7 : j = 7
    · rw [if_pos e7, if_pos e7]
    · rw [if_neg e7, if_neg e7]
      by_cases e9 : j = 9
      · rw [if_pos e9, if_pos e9]
      · rw [if_neg e9, if_neg e9, va_o _ _ e]
theorem m_rG {p g k : Nat} (h7 : k ≠ 7) (h9 : k ≠ 9) : zI (rfT h K G p g) 59 k = G k := by
  unfold rfT
  rw [rfS_1, rF_o h7 h9]
theorem ixE (st : Nat) : (4249 : Int32) + ((2 : Int32) * nI st) = nI (4249 + 2 * st) := by rw [nl_4249, nl_2, nmul, nadd]
theorem m_emit (s : Sh h) {p g st : Nat} (e : G 13 = nI st) (hs : st < 400) (k v : Int32) : F_X12_emits 59 k v (rfT h K G p g) = some ((), rfT h (eK K st k v) (eG G st) p g) := by
  unfold F_X12_emits F_X12_emits_b0
  have y : nI (4249 + 2 * st) + (1 : Int32) = nI (4250 + 2 * st) := by
    rw [nS_1]
    congr 1
    omega
  simp only [m_k, m_R, m_l, k59 s, r59_1 s, k60 s, l60 s, m_rG (show 13 ≠ 7 by decide) (show 13 ≠ 9 by decide), e, ixE, y, ix_t (show 4249 + 2 * st < 5049 by omega) (show 5049 < 2147483648 by omega), ix_t (show 4250 + 2 * st < 5049 by omega) (show 5049 < 2147483648 by omega), ncl (show 4249 + 2 * st < 2147483648 by omega), ncl (show 4250 + 2 * st < 2147483648 by omega), m_seta _ _ (show 60 ≠ 59 by decide), m_sG _ (show 13 ≠ 7 by decide) (show 13 ≠ 9 by decide), nS_1, gd_t, ob_s, ob2_s, ob4_s, sm_l, sm_r, ac_s, decide_true, decide_false, eq_self, ne_eq, not_false_eq_true, not_true_eq_false, if_true, if_false, ite_true, ite_false, reduceIte, or_true, true_or, or_false, false_or, and_true, true_and, Bool.false_eq_true, reduceCtorEq]
  rfl
/-- the draft -/
def dK (K : Nat → Nat → Int32) : Nat → Int32 := fun k => K 60 (4232 + k)
/-- nothing but the draft has changed -/
def WF (J K : Nat → Nat → Int32) (G : Nat → Int32) (J' K' : Nat → Nat → Int32) (G' : Nat → Int32) : Prop :=
  (∀ a, a ≠ 38 → a ≠ 39 → J' a = J a) ∧ (∀ a, a ≠ 60 → K' a = K a) ∧ (∀ k, k < 4232 → K' 60 k = K 60 k) ∧ (∀ k, k ≠ 10 → k ≠ 13 → G' k = G k)
theorem WF_r : WF J K G J K G := ⟨fun _ _ _ => rfl, fun _ _ => rfl, fun _ _ => rfl, fun _ _ _ => rfl⟩
theorem WF_t (x : WF J K G J' K' G') (y : WF J' K' G' J'' K'' G'') : WF J K G J'' K'' G'' := ⟨fun a h1 h2 => (y.1 a h1 h2).trans (x.1 a h1 h2), fun a h1 => (y.2.1 a h1).trans (x.2.1 a h1), fun k hk => (y.2.2.1 k hk).trans (x.2.2.1 k hk), fun k h1 h2 => (y.2.2.2 k h1 h2).trans (x.2.2.2 k h1 h2)⟩
theorem eK_o {st : Nat} {k v : Int32} {a : Nat} (ha : a ≠ 60) : eK K st k v a = K a := by
  unfold eK
  rw [up2_a _ _ _ _ _ ha, up2_a _ _ _ _ _ ha]
theorem eK_l {st j : Nat} {k v : Int32} (hj : j < 4249 + 2 * st) : eK K st k v 60 j = K 60 j := by
  unfold eK
  rw [up2_k _ _ _ _ _ (by omega), up2_k _ _ _ _ _ (by omega)]
theorem eK_1 {st : Nat} {k v : Int32} : eK K st k v 60 (4249 + 2 * st) = k := by
  unfold eK
  rw [up2_k _ _ _ _ _ (by omega), up2_e]
theorem eK_2 {st : Nat} {k v : Int32} : eK K st k v 60 (4250 + 2 * st) = v := by
  unfold eK
  rw [up2_e]
theorem eG_o {st k : Nat} (hk : k ≠ 13) : eG G st k = G k := va_o _ _ hk
theorem eG_1 {st : Nat} : eG G st 13 = nI (st + 1) := va_e _ _ _
theorem pJ_o {z a : Nat} {c : Int32} (h1 : a ≠ 38) (h2 : a ≠ 39) : pJ J z c a = J a := by
  unfold pJ
  rw [up2_a _ _ _ _ _ h1, up2_a _ _ _ _ _ h2]
theorem pJ_8 {z k : Nat} {c : Int32} (h1 : k ≠ 3) : pJ J z c 38 k = J 38 k := by
  unfold pJ
  rw [up2_k _ _ _ _ _ h1, up2_a _ _ _ _ _ (by decide)]
theorem pJ_3 {z : Nat} {c : Int32} : pJ J z c 38 3 = nI (z + 1) := by
  unfold pJ
  rw [up2_e]
theorem pJ_9 {z k : Nat} {c : Int32} (h1 : k ≠ z) : pJ J z c 39 k = J 39 k := by
  unfold pJ
  rw [up2_a _ _ _ _ _ (by decide), up2_k _ _ _ _ _ h1]
theorem pJ_z {z : Nat} {c : Int32} : pJ J z c 39 z = c := by
  unfold pJ
  rw [up2_a _ _ _ _ _ (by decide), up2_e]
theorem WF_e {st : Nat} {k v : Int32} : WF J K G J (eK K st k v) (eG G st) := ⟨fun _ _ _ => rfl, fun a ha => eK_o ha, fun k hk => eK_l (by omega), fun k _ h2 => eG_o h2⟩
theorem WF_pe {st z : Nat} {k v c : Int32} : WF J K G (pJ J z c) (eK K st k v) (eG G st) := ⟨fun a h1 h2 => pJ_o h1 h2, fun a ha => eK_o ha, fun k hk => eK_l (by omega), fun k _ h2 => eG_o h2⟩
theorem WF_d {v : Int32} : WF J K G J K (va_up G 10 v) := ⟨fun _ _ _ => rfl, fun _ _ => rfl, fun _ _ => rfl, fun k h1 _ => va_o _ _ h1⟩
/-- where a part of a wish begins -/
def ES (b : Nat → Int32) (n : Nat) (F : Nat → Int32) (i d st p : Nat) (J K : Nat → Nat → Int32) (G : Nat → Int32) : Prop := TC b n J F ∧ TM b n K G ∧ J 38 3 = nI (st + i) ∧ G 13 = nI st ∧ G 10 = nI d ∧ st + i < p ∧ p ≤ n
/-- a part of a wish, read: what it leaves on the stack -/
def TR (i B : Nat) (ty : Bool) (d st p : Nat) (J K : Nat → Nat → Int32) (G : Nat → Int32) (st' p' : Nat) (J' K' : Nat → Nat → Int32) (G' : Nat → Int32) : Prop :=
  (st ≤ st' ∧ st' + p ≤ st + p' ∧ p < p') ∧ WF J K G J' K' G' ∧ (∀ k, k ≠ 3 → J' 38 k = J 38 k) ∧ (∀ k, k < st + i → J' 39 k = J 39 k) ∧ J' 38 3 = nI (st' + i) ∧ (∀ k, k < 4249 + 2 * st → K' 60 k = K 60 k) ∧ G' 10 = nI d ∧ G' 13 = nI st' ∧
  (∀ j, st ≤ j → j < st' → J' 39 (j + i) = cod (K' 60 (4249 + 2 * j)) (K' 60 (4250 + 2 * j))) ∧
  (∀ stk : List Bool, stk.length ≤ B → tyR (dK K') st (st' - st) stk = some (ty :: stk))
variable {i B d st p st' p' : Nat} {ty : Bool}
theorem WF_TC (w : WF J K G J' K' G') (c : TC b n J F) : TC b n J' F := ⟨c.1, c.2.1, fun j hj => by rw [w.1 2 (by decide) (by decide)]; exact c.2.2 j hj⟩
theorem WF_TM (w : WF J K G J' K' G') (c : TM b n K G) : TM b n K' G' := ⟨c.1, by rw [w.2.2.2 8 (by decide) (by decide)]; exact c.2.1, fun j hj => by rw [w.2.1 63 (by decide)]; exact c.2.2 j hj⟩
theorem ES_TR (e : ES b n F i d st p J K G) (r : TR i B ty d st p J K G st' p' J' K' G') (hp : p' ≤ n) : ES b n F i d st' p' J' K' G' := by
  obtain ⟨⟨r1, r2, r3⟩, w, -, -, j3, -, g10, g13, -, -⟩ := r
  obtain ⟨e1, e2, -, -, -, e6, -⟩ := e
  exact ⟨WF_TC w e1, WF_TM w e2, j3, g13, g10, by omega, hp⟩
theorem ES_p (e : ES b n F i d st p J K G) {p1 : Nat} (h1 : p ≤ p1) (h2 : p1 ≤ n) : ES b n F i d st p1 J K G := ⟨e.1, e.2.1, e.2.2.1, e.2.2.2.1, e.2.2.2.2.1, by have := e.2.2.2.2.2.1; omega, h2⟩
theorem TR_p (r : TR i B ty d st p J K G st' p' J' K' G') {p1 : Nat} (h1 : p' ≤ p1) : TR i B ty d st p J K G st' p1 J' K' G' := ⟨⟨r.1.1, by have := r.1; omega, by have := r.1; omega⟩, r.2⟩
theorem TR_b (r : TR i B ty d st p J K G st' p' J' K' G') {B1 : Nat} (h1 : B1 ≤ B) : TR i B1 ty d st p J K G st' p' J' K' G' := by
  obtain ⟨r1, r2, r3, r4, r5, r6, r7, r8, r9, r10⟩ := r
  exact ⟨r1, r2, r3, r4, r5, r6, r7, r8, r9, fun stk hs => r10 stk (by omega)⟩
theorem tyR_app (m : Nat → Int32) : ∀ (a c i : Nat) (stk : List Bool), tyR m i (a + c) stk = ob (tyR m i a stk) fun s => tyR m (i + a) c s
  | 0, c, i, stk => by
    rw [Nat.zero_add]
    rfl
  | a + 1, c, i, stk => by
    rw [show a + 1 + c = (a + c) + 1 by omega]
    show ob (tyS (m (17 + 2 * i)) (m (18 + 2 * i)) stk) (fun st' => tyR m (i + 1) (a + c) st') = ob (ob (tyS (m (17 + 2 * i)) (m (18 + 2 * i)) stk) (fun st' => tyR m (i + 1) a st')) (fun s => tyR m (i + (a + 1)) c s)
    cases tyS (m (17 + 2 * i)) (m (18 + 2 * i)) stk with
    | none => rfl
    | some q =>
      show tyR m (i + 1) (a + c) q = ob (tyR m (i + 1) a q) (fun s => tyR m (i + (a + 1)) c s)
      rw [tyR_app m a c (i + 1) q, show i + 1 + a = i + (a + 1) by omega]
theorem tyR_1 (m : Nat → Int32) (i : Nat) (stk : List Bool) : tyR m i 1 stk = tyS (m (17 + 2 * i)) (m (18 + 2 * i)) stk := by
  show ob (tyS (m (17 + 2 * i)) (m (18 + 2 * i)) stk) (fun st' => tyR m (i + 1) 0 st') = _
  cases tyS (m (17 + 2 * i)) (m (18 + 2 * i)) stk with
  | none => rfl
  | some q => rfl
theorem dK_1 {st : Nat} {k v : Int32} : dK (eK K st k v) (17 + 2 * st) = k := by
  show eK K st k v 60 (4232 + (17 + 2 * st)) = k
  rw [show 4232 + (17 + 2 * st) = 4249 + 2 * st by omega, eK_1]
theorem dK_2 {st : Nat} {k v : Int32} : dK (eK K st k v) (18 + 2 * st) = v := by
  show eK K st k v 60 (4232 + (18 + 2 * st)) = v
  rw [show 4232 + (18 + 2 * st) = 4250 + 2 * st by omega, eK_2]
/-- one push -/
theorem TR_push (e : ES b n F i d st p J K G) {k v : Int32} (hp : p < p') (ht : ∀ stk : List Bool, stk.length ≤ B → tyS k v stk = some (ty :: stk)) : TR i B ty d st p J K G (st + 1) p' (pJ J (st + i) (cod k v)) (eK K st k v) (eG G st) := by
  refine ⟨by omega, WF_pe, fun k hk => pJ_8 hk, fun k hk => pJ_9 (by omega), by rw [pJ_3]; congr 1; omega, fun k hk => eK_l hk, by rw [eG_o (by decide)]; exact e.2.2.2.2.1, eG_1, fun j h1 h2 => ?_, fun stk hs => ?_⟩
  · have : j = st := by omega
    subst this
    rw [pJ_z, eK_1, eK_2]
  · rw [show st + 1 - st = 1 by omega, tyR_1, dK_1, dK_2]
    exact ht stk hs
/-- two parts, and what joins them -/
theorem TR_op {ty1 ty2 : Bool} {st1 p1 p2 st2 p3 B2 : Nat} {J1 K1 J2 K2 : Nat → Nat → Int32} {G1 G2 : Nat → Int32} (r1 : TR i B ty1 d st p J K G st1 p1 J1 K1 G1) (h12 : p1 < p2) (r2 : TR i B2 ty2 d st1 p2 J1 K1 G1 st2 p3 J2 K2 G2) (hB : B + 1 ≤ B2) {k : Int32} (ht : ∀ stk : List Bool, tyS k 0 (ty2 :: ty1 :: stk) = some (ty :: stk)) : TR i B ty d st p J K G (st2 + 1) p3 (pJ J2 (st2 + i) (cod k 0)) (eK K2 st2 k 0) (eG G2 st2) := by
  obtain ⟨⟨a1, a2, a3⟩, aw, a4, a5, a6, a7, a8, a9, a10, a11⟩ := r1
  obtain ⟨⟨b1, b2, b3⟩, bw', b4, b5, b6, b7, b8, b9, b10, b11⟩ := r2
  refine ⟨by omega, WF_t (WF_t aw bw') WF_pe, fun k hk => by rw [pJ_8 hk, b4 k hk, a4 k hk], fun k hk => by rw [pJ_9 (by omega), b5 k (by omega), a5 k hk], by rw [pJ_3]; congr 1; omega, fun k hk => by rw [eK_l (by omega), b7 k (by omega), a7 k hk], by rw [eG_o (by decide)]; exact b8, eG_1, fun j h1 h2 => ?_, fun stk hs => ?_⟩
  · by_cases ej : j = st2
    · subst ej
      rw [pJ_z, eK_1, eK_2]
    · rw [pJ_9 (by omega), eK_l (by omega), eK_l (by omega)]
      by_cases ej2 : st1 ≤ j
      · exact b10 j ej2 (by omega)
      · rw [b5 _ (by omega), b7 _ (by omega), b7 _ (by omega)]
        exact a10 j h1 (by omega)
  · have c1 : tyR (dK (eK K2 st2 k 0)) st (st1 - st) stk = some (ty1 :: stk) := by
      rw [tyR_congr (m := dK K1) (fun x hx => ?_)]
      · exact a11 stk hs
      · show eK K2 st2 k 0 60 (4232 + x) = K1 60 (4232 + x)
        rw [eK_l (by omega), b7 _ (by omega)]
    have c2 : tyR (dK (eK K2 st2 k 0)) st1 (st2 - st1) (ty1 :: stk) = some (ty2 :: ty1 :: stk) := by
      rw [tyR_congr (m := dK K2) (fun x hx => ?_)]
      · exact b11 _ (by show stk.length + 1 ≤ B2; omega)
      · show eK K2 st2 k 0 60 (4232 + x) = K2 60 (4232 + x)
        rw [eK_l (by omega)]
    rw [show st2 + 1 - st = (st1 - st) + ((st2 - st1) + 1) by omega, tyR_app, c1, ob_s, show st + (st1 - st) = st1 by omega, tyR_app, c2, ob_s, show st1 + (st2 - st1) = st2 by omega, tyR_1, dK_1, dK_2]
    exact ht stk
/-- a part that is deeper -/
theorem TR_deep {p1 p2 p3 st1 : Nat} {J1 K1 : Nat → Nat → Int32} {G1 : Nat → Int32} (r : TR i B ty (d + 1) st p1 J K (va_up G 10 (nI (d + 1))) st1 p2 J1 K1 G1) (h1 : p < p1) (h2 : p2 ≤ p3) : TR i B ty d st p J K G st1 p3 J1 K1 (va_up G1 10 (nI d)) := by
  obtain ⟨⟨a1, a2, a3⟩, aw, a4, a5, a6, a7, a8, a9, a10, a11⟩ := r
  exact ⟨by omega, WF_t (WF_t WF_d aw) WF_d, a4, a5, a6, a7, va_e _ _ _, by rw [va_o _ _ (by decide)]; exact a9, a10, a11⟩
theorem TR_not {p1 p2 st1 : Nat} {J1 K1 : Nat → Nat → Int32} {G1 : Nat → Int32} (r : TR i B true (d + 1) st p1 J K (va_up G 10 (nI (d + 1))) st1 p2 J1 K1 G1) (h1 : p < p1) : TR i B true d st p J K G (st1 + 1) p2 (pJ J1 (st1 + i) (cod 13 0)) (eK K1 st1 13 0) (eG (va_up G1 10 (nI d)) st1) := by
  obtain ⟨⟨a1, a2, a3⟩, aw, a4, a5, a6, a7, a8, a9, a10, a11⟩ := r
  refine ⟨by omega, WF_t (WF_t (WF_t WF_d aw) WF_d) WF_pe, fun k hk => by rw [pJ_8 hk, a4 k hk], fun k hk => by rw [pJ_9 (by omega), a5 k hk], by rw [pJ_3]; congr 1; omega, fun k hk => by rw [eK_l (by omega), a7 k hk], by rw [eG_o (by decide)]; exact va_e _ _ _, eG_1, fun j h1 h2 => ?_, fun stk hs => ?_⟩
  · by_cases ej : j = st1
    · subst ej
      rw [pJ_z, eK_1, eK_2]
    · rw [pJ_9 (by omega), eK_l (by omega), eK_l (by omega)]
      exact a10 j h1 (by omega)
  · have c1 : tyR (dK (eK K1 st1 13 0)) st (st1 - st) stk = some (true :: stk) := by
      rw [tyR_congr (m := dK K1) (fun x hx => ?_)]
      · exact a11 stk hs
      · show eK K1 st1 13 0 60 (4232 + x) = K1 60 (4232 + x)
        rw [eK_l (by omega)]
    rw [show st1 + 1 - st = (st1 - st) + 1 by omega, tyR_app, c1, ob_s, show st + (st1 - st) = st1 by omega, tyR_1, dK_1, dK_2]
    rfl
theorem ES_put (e : ES b n F i d st p J K G) {k v c : Int32} (hp : st + 1 + i < p) : ES b n F i d (st + 1) p (pJ J (st + i) c) (eK K st k v) (eG G st) := by
  obtain ⟨e1, e2, e3, e4, e5, e6, e7⟩ := e
  exact ⟨WF_TC (WF_pe (K := K) (G := G) (st := st) (k := k) (v := v)) e1, WF_TM (WF_pe (J := J) (z := st + i) (c := c)) e2, by rw [pJ_3]; congr 1; omega, eG_1, by rw [eG_o (by decide)]; exact e5, hp, e7⟩
end EMIT
