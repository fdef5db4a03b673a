/-! WISHES: a line -/
section WLINE
variable {h : Hp} {b : Nat → Int32} {n : Nat} {F : Nat → Int32}
theorem tyR_c2 {m m2 : Nat → Int32} : ∀ {n i : Nat} {st : List Bool}, (∀ k, 17 + 2 * i ≤ k → k < 17 + 2 * (i + n) → m2 k = m k) → tyR m2 i n st = tyR m i n st
  | 0, _, _, _ => rfl
  | n + 1, i, st, e => by
    unfold tyR
    rw [e (17 + 2 * i) (by omega) (by omega), e (18 + 2 * i) (by omega) (by omega)]
    cases tyS (m (17 + 2 * i)) (m (18 + 2 * i)) st with
    | none => rfl
    | some q => exact tyR_c2 (n := n) (i := i + 1) (st := q) (fun k h1 h2 => e k (by omega) (by omega))
theorem WR_end {a c m : Nat → Int32} {i st : Nat} (w : WR a c m) (m0 : m 0 = nI i) (hi : i < 9) (a3 : a 3 = nI (st + i)) (hs : st < 1000) : (i = 0 → st = 0) ∧ (0 < i → wN m (2 * i) = st) := by
  have n0 : wN m 0 = i := by unfold wN; rw [m0, ncl (by omega)]
  obtain ⟨⟨-, -, w3⟩, -, w5, -⟩ := w
  rw [a3] at w5
  unfold wEnd at w5
  rw [n0] at w5
  constructor
  · intro e
    subst e
    rw [if_pos rfl] at w5
    have := (nI_eq (by omega) (by omega)).mp w5
    omega
  · intro e
    rw [if_neg (by omega)] at w5
    obtain ⟨-, -, -, y, -, -⟩ := w3 (i - 1) (by omega)
    rw [show 2 + 2 * (i - 1) = 2 * i by omega] at y
    have := (nI_eq (by omega) (by omega)).mp w5
    omega
theorem WR_hi {a c m : Nat → Int32} {i st : Nat} (w : WR a c m) (m0 : m 0 = nI i) (hi : i < 9) (a3 : a 3 = nI (st + i)) (hs : st < 1000) : ∀ k x, x + k + 1 = i → wN m (2 + 2 * x) ≤ st
  | 0, x, e => by
    have := (WR_end w m0 hi a3 hs).2 (by omega)
    rw [show 2 + 2 * x = 2 * i by omega, this]
    exact Nat.le_refl _
  | k + 1, x, e => by
    have n0 : wN m 0 = i := by unfold wN; rw [m0, ncl (by omega)]
    have ih := WR_hi w m0 hi a3 hs k (x + 1) (by omega)
    obtain ⟨-, -, y3, -, y5, -⟩ := w.1.2.2 (x + 1) (by omega)
    rw [if_neg (by omega)] at y5
    have z : wN m (2 * (x + 1)) = wN m (2 + 2 * x) := by rw [show 2 * (x + 1) = 2 + 2 * x by omega]
    omega
/-- a wish more -/
theorem WR_line {a a' c c' m m' : Nat → Int32} {i st st' : Nat} (hi : i < 8) (w : WR a c m) (m0 : m 0 = nI i) (a3 : a 3 = nI (st + i)) (le : st ≤ st') (h4 : st' + i < 400) (m0' : m' 0 = nI (i + 1)) (me : ∀ k, k ≠ 0 → (k < 1 + 2 * i ∨ (17 ≤ k ∧ k < 17 + 2 * st)) → m' k = m k) (m1 : m' (1 + 2 * i) = nI st) (m2 : m' (2 + 2 * i) = nI st') (ty : tyR m' st (st' - st) [] = some [true]) (ce : ∀ k, k < st + i → c' k = c k) (c7 : c' (st' + i) = -7) (cc : ∀ j, st ≤ j → j < st' → c' (j + i) = cod (m' (17 + 2 * j)) (m' (18 + 2 * j))) (a0' : a' 0 = nI (i + 1)) (a3' : a' 3 = nI (st' + (i + 1))) : WR a' c' m' := by
  have n0 : wN m 0 = i := by unfold wN; rw [m0, ncl (by omega)]
  have n0' : wN m' 0 = i + 1 := by unfold wN; rw [m0', ncl (by omega)]
  have n1 : wN m' (1 + 2 * i) = st := by unfold wN; rw [m1, ncl (by omega)]
  have n2 : wN m' (2 + 2 * i) = st' := by unfold wN; rw [m2, ncl (by omega)]
  have en := WR_end w m0 (by omega) a3 (by omega)
  have hh := WR_hi w m0 (by omega) a3 (by omega)
  have ew : ∀ k, k ≠ 0 → k < 1 + 2 * i → wN m' k = wN m k := fun k h0 hk => by unfold wN; rw [me k h0 (Or.inl hk)]
  obtain ⟨⟨w1, w2, w3⟩, w4, w5, w6⟩ := w
  refine ⟨⟨by rw [n0', m0'], by omega, fun x hx => ?_⟩, by rw [a0', m0'], ?_, fun x hx => ?_⟩
  · rw [n0'] at hx
    by_cases e : x = i
    · subst e
      rw [n1, n2, m1, m2]
      refine ⟨rfl, rfl, le, h4, ?_, ty⟩
      by_cases e0 : x = 0
      · rw [if_pos e0]
        exact en.1 e0
      · rw [if_neg e0, ew _ (by omega) (by omega)]
        exact (en.2 (by omega)).symm
    · obtain ⟨y1, y2, y3, y4, y5, y6⟩ := w3 x (by omega)
      have hx2 := hh (i - 1 - x) x (by omega)
      rw [ew (1 + 2 * x) (by omega) (by omega), ew (2 + 2 * x) (by omega) (by omega), me (1 + 2 * x) (by omega) (Or.inl (by omega)), me (2 + 2 * x) (by omega) (Or.inl (by omega))]
      refine ⟨y1, y2, y3, y4, ?_, ?_⟩
      · by_cases e0 : x = 0
        · rw [if_pos e0] at y5 ⊢
          exact y5
        · rw [if_neg e0] at y5 ⊢
          rw [ew _ (by omega) (by omega)]
          exact y5
      · rw [tyR_c2 (m := m) (fun k h1 h2 => me k (by omega) (Or.inr (by omega)))]
        exact y6
  · unfold wEnd
    rw [n0', if_neg (by omega), show 2 * (i + 1) = 2 + 2 * i by omega, n2, a3']
  · rw [n0'] at hx
    by_cases e : x = i
    · subst e
      rw [n1, n2]
      exact ⟨c7, cc⟩
    · have hx2 := hh (i - 1 - x) x (by omega)
      obtain ⟨z1, z2⟩ := w6 x (by omega)
      rw [ew (1 + 2 * x) (by omega) (by omega), ew (2 + 2 * x) (by omega) (by omega)]
      refine ⟨by rw [ce _ (by omega)]; exact z1, fun j h1 h2 => ?_⟩
      rw [ce _ (by omega), me (17 + 2 * j) (by omega) (Or.inr (by omega)), me (18 + 2 * j) (by omega) (Or.inr (by omega))]
      exact z2 j h1 h2
def RW (b : Nat → Int32) (n : Nat) (F : Nat → Int32) (J0 K0 : Nat → Nat → Int32) (G0 : Nat → Int32) (i x : Nat) (J K : Nat → Nat → Int32) (G : Nat → Int32) : Prop :=
  TC b n J F ∧ TM b n K G ∧ WF J0 K0 G0 J K G ∧ ∃ st, J 38 3 = nI (st + i) ∧ G 13 = nI st ∧ st + i ≤ x ∧ st < 400 ∧ WR (J 38) (J 39) (va_up (dK K) 0 (nI i))
theorem RW_m {J0 K0 J K : Nat → Nat → Int32} {G0 G : Nat → Int32} (i x y : Nat) (r : RW b n F J0 K0 G0 i x J K G) (hxy : x ≤ y) : RW b n F J0 K0 G0 i y J K G := by
  obtain ⟨r1, r2, r3, st, r4, r5, r6, r7, r8⟩ := r
  exact ⟨r1, r2, r3, st, r4, r5, by omega, r7, r8⟩
theorem ixW (c d i : Nat) (e : 4232 + c = d) (hd : (4232 + c : Nat) < 5000) : (Int32.ofNat d) + ((2 : Int32) * nI i) = nI (d + 2 * i) := by
  show nI d + (2 : Int32) * nI i = _
  rw [nl_2, nmul, nadd]
theorem wish_line (s : Sh h) {J0 K0 : Nat → Nat → Int32} {G0 : Nat → Int32} : LineOk2 h b n F (F_X10_readLine 38 1 3) (F_X12_readWish 59) 8 38 (RW b n F J0 K0 G0) (WF J0 K0 G0) := by
  intro i q J K G t hi hq idq rel
  obtain ⟨tc, tm, wf, st, j3, g13, hsx, hs4, wr⟩ := rel
  have hn := tc.1
  by_cases ew : tIs b n q w_want
  · have lt := tIs_lt (by decide) ew
    have wl : tW b n q ≤ n := tTo_le isLe b hq
    have x0 : tS b n (tW b n q) = tN b n q := tN_w lt
    have y1 : (4233 : Int32) + ((2 : Int32) * nI i) = nI (4233 + 2 * i) := ixW 1 4233 i rfl (by omega)
    have y2 : (4234 : Int32) + ((2 : Int32) * nI i) = nI (4234 + 2 * i) := ixW 2 4234 i rfl (by omega)
    have wf2 : WF J K G J (up2 K 60 (4233 + 2 * i) (nI st)) (va_up G 10 (nI 0)) := ⟨fun _ _ _ => rfl, fun a ha => up2_a _ _ _ _ _ ha, fun k hk => up2_k _ _ _ _ _ (by omega), fun k h1 _ => va_o _ _ h1⟩
    have es : ES b n F i 0 st (tW b n q) J (up2 K 60 (4233 + 2 * i) (nI st)) (va_up G 10 (nI 0)) := ⟨tc, WF_TM wf2 tm, j3, by rw [va_o _ _ (by decide)]; exact g13, va_e _ _ _, by omega, wl⟩
    have mh : ∀ hM, Sh hM → F_X12_readWish 59 (nI i) (rfT hM K G (tW b n q) q) = ob2 (F_X12_readCond 59 (rfT hM (up2 K 60 (4233 + 2 * i) (nI st)) (va_up G 10 (nI 0)) (tW b n q) q)) fun r9 h10 => (if r9 = 0 then some ((0 : Int32), h10) else gd (decide (kd h10 59 = 11)) <| ob (zR h10 59 1) fun q12 => gd (decide (kd h10 q12 = 13)) <| gd (ix (nI (4234 + 2 * i)) (zl h10 q12)) <| some ((1 : Int32), setI h10 q12 (nI (4234 + 2 * i)).toNatClampNeg (zI h10 59 13))) := fun hM sM => by
      unfold F_X12_readWish F_X12_readWish_b0
      rw [m_isW1 sM tm hq wrd_53 ew, ob_s, m_k, gd_d (k59 sM), if_neg (by decide), m_R, r59_1 sM, ob_s, m_k, gd_d (k60 sM), y1, y2, m_l, l60 sM, ix_t (show 4233 + 2 * i < 5049 by omega) (by omega), gd_t, ncl (by omega), m_rG (by decide) (by decide), g13, m_seta _ _ (by decide), m_sG _ (by decide) (by decide)]
      rfl
    have ch : F_X10_readLine 38 1 3 (cT h b n J F q t (-1)) = ob2 (F_X10_readAny 38 1 (0 : Int32) (cT h b n J F (tS b n (tW b n q)) t (-1))) fun r7 h8 => gd (decide (kd (cT h b n J F (tS b n (tW b n q)) t (-1)) 38 = 9)) <| (if r7 = 0 then F_X10_readLine_b31 h8 else ob2 (F_X10_put 38 (-7 : Int32) h8) fun r11 h12 => gd (decide (kd h8 38 = 9)) <| (if r11 = 0 then F_X10_readLine_b31 h12 else F_X10_readLine_b32 (1 : Int32) h12)) := by
      unfold F_X10_readLine F_X10_readLine_b0
      rw [x_takeW1 s tc hq wrd_13 ew, ob2_s, cT_k, gd_d (k1 s), if_neg (by decide), x0]
    rcases any_ok s st (tW b n q) q J _ _ t es with ⟨f, q', J', t', K', G', p', a1, a2, a3⟩ | ⟨st', J1, t1, K1, G1, p', g1, a1, a2, hp', r⟩
    · left
      refine ⟨f, q', J', t', K', G', p', ?_, fun hM sM => ?_, WF_t wf (WF_t wf2 a3)⟩
      · rw [ch, a1, ob2_s, cT_k, gd_d (k38 s).1, if_pos rfl]
        rfl
      · have a2 : F_X12_readCond 59 (rfT hM (up2 K 60 (4233 + 2 * i) (nI st)) (va_up G 10 (nI 0)) (tW b n q) q) = some (0, rfT hM K' G' p' f) := a2 hM sM
        rw [mh hM sM, a2, ob2_s, if_pos rfl]
    · right
      have e1 := ES_TR es r hp'
      have l1 := e1.2.2.2.2.2.1
      have wf3 : WF J1 K1 G1 (pJ J1 (st' + i) (-7)) (up2 K1 60 (4234 + 2 * i) (nI st')) G1 := ⟨fun a h1 h2 => pJ_o h1 h2, fun a ha => up2_a _ _ _ _ _ ha, fun k hk => up2_k _ _ _ _ _ (by omega), fun _ _ _ => rfl⟩
      have wfa := WF_t wf (WF_t (WF_t wf2 r.2.1) wf3)
      have wr0 : va_up (dK K) 0 (nI i) 0 = nI i := va_e _ _ _
      have a0 : J 38 0 = nI i := by rw [wr.2.1, wr0]
      refine ⟨tS b n p', pJ J1 (st' + i) (-7), t1, up2 K1 60 (4234 + 2 * i) (nI st'), G1, p', g1, ?_, fun hM sM => ?_, hp', rfl, WF_TC wf3 e1.1, WF_TM wf3 e1.2.1, ?_, ?_⟩
      · rw [ch, a1, ob2_s, cT_k, gd_d (k38 s).1, if_neg (by decide), x_cput s e1.2.2.1 (by omega), ob2_s, cT_k, gd_d (k38 s).1, if_neg (by decide)]
        rfl
      · have a2 : F_X12_readCond 59 (rfT hM (up2 K 60 (4233 + 2 * i) (nI st)) (va_up G 10 (nI 0)) (tW b n q) q) = some (1, rfT hM K1 G1 p' g1) := a2 hM sM
        rw [mh hM sM, a2, ob2_s, if_neg (by decide), m_k, gd_d (k59 sM), m_R, r59_1 sM, ob_s, m_k, gd_d (k60 sM), m_l, l60 sM, ix_t (show 4234 + 2 * i < 5049 by omega) (by omega), gd_t, ncl (by omega), m_rG (by decide) (by decide), e1.2.2.2.1, m_seta _ _ (by decide)]
      · rw [pJ_8 (by decide), r.2.2.1 0 (by decide)]
        exact a0
      · obtain ⟨⟨r1, r2, r3⟩, rw', r4, r5, r6, r7, r8, r9, r10, r11⟩ := r
        have wfb : WF J0 K0 G0 (up2 (pJ J1 (st' + i) (-7)) 38 0 (nI (i + 1))) (up2 K1 60 (4234 + 2 * i) (nI st')) G1 := WF_t wfa ⟨fun a h1 h2 => up2_a _ _ _ _ _ h1, fun _ _ => rfl, fun _ _ => rfl, fun _ _ _ => rfl⟩
        have kk : ∀ k, k ≠ 2 + 2 * i → dK (up2 K1 60 (4234 + 2 * i) (nI st')) k = dK K1 k := fun k hk => by
          show up2 K1 60 (4234 + 2 * i) (nI st') 60 (4232 + k) = K1 60 (4232 + k)
          rw [up2_k _ _ _ _ _ (by omega)]
        have k1' : ∀ k, k < 17 + 2 * st → k ≠ 1 + 2 * i → dK K1 k = dK K k := fun k hk h2 => by
          show K1 60 (4232 + k) = K 60 (4232 + k)
          rw [r7 _ (by omega), up2_k _ _ _ _ _ (by omega)]
        have tc3 : TC b n (up2 (pJ J1 (st' + i) (-7)) 38 0 (nI (i + 1))) F := TC_up (WF_TC wf3 e1.1) (by decide)
        refine ⟨tc3, WF_TM wf3 e1.2.1, wfb, st', ?_, r9, by omega, by omega, ?_⟩
        · rw [up2_k _ _ _ _ _ (by decide), pJ_3]
          congr 1
        · refine WR_line (st := st) (st' := st') (by omega) wr wr0 j3 r1 (by omega) (va_e _ _ _) (fun k h0 hk => ?_) ?_ ?_ ?_ (fun k hk => ?_) ?_ (fun j h1 h2 => ?_) (up2_e _ _ _ _) ?_
          · rw [va_o _ _ h0, va_o _ _ h0, kk k (by omega), k1' k (by omega) (by omega)]
          · rw [va_o _ _ (by omega), kk _ (by omega)]
            show K1 60 (4232 + (1 + 2 * i)) = nI st
            rw [r7 _ (by omega), show 4232 + (1 + 2 * i) = 4233 + 2 * i by omega, up2_e]
          · rw [va_o _ _ (by omega)]
            show up2 K1 60 (4234 + 2 * i) (nI st') 60 (4232 + (2 + 2 * i)) = nI st'
            rw [show 4232 + (2 + 2 * i) = 4234 + 2 * i by omega, up2_e]
          · rw [tyR_c2 (m := dK K1) (fun k h1 h2 => by rw [va_o _ _ (by omega), kk k (by omega)])]
            exact r11 [] (by show 0 ≤ 8; omega)
          · rw [up2_a _ _ _ _ _ (by decide), pJ_9 (by omega), r5 k hk]
          · rw [up2_a _ _ _ _ _ (by decide), pJ_z]
          · rw [up2_a _ _ _ _ _ (by decide), pJ_9 (by omega), va_o _ _ (by omega), va_o _ _ (by omega), kk _ (by omega), kk _ (by omega), r10 j h1 h2]
            show cod (K1 60 (4249 + 2 * j)) (K1 60 (4250 + 2 * j)) = cod (K1 60 (4232 + (17 + 2 * j))) (K1 60 (4232 + (18 + 2 * j)))
            rw [show 4232 + (17 + 2 * j) = 4249 + 2 * j by omega, show 4232 + (18 + 2 * j) = 4250 + 2 * j by omega]
          · rw [up2_k _ _ _ _ _ (by decide), pJ_3]
            congr 1
  · left
    refine ⟨q, q, J, t, K, G, tW b n q, ?_, fun hM sM => ?_, wf⟩
    · unfold F_X10_readLine F_X10_readLine_b0
      rw [x_takeW0 s tc hq wrd_13 ew, ob2_s, cT_k, gd_d (k1 s), if_pos rfl]
      rfl
    · unfold F_X12_readWish F_X12_readWish_b0
      rw [m_isW0 sM tm hq wrd_53 ew, ob_s, m_k, gd_d (k59 sM), if_pos rfl]
end WLINE
