/-! WISHES: a part of a sum -/
section PART
variable {h : Hp} {b : Nat → Int32} {n : Nat} {F : Nat → Int32} {i d st p g : Nat} {J K : Nat → Nat → Int32} {G : Nat → Int32} {t : Int32}
theorem tyS_w {k : Int32} (hk : k = 0 ∨ k = 1 ∨ k = 2 ∨ k = 3 ∨ k = 4 ∨ k = 5) {stk : List Bool} (hs : stk.length ≤ 31) : tyS k 0 stk = some (false :: stk) := by
  unfold tyS
  rw [if_neg (by rcases hk with rfl | rfl | rfl | rfl | rfl | rfl <;> decide), if_neg (by rcases hk with rfl | rfl | rfl | rfl | rfl | rfl <;> decide), if_neg (by rcases hk with rfl | rfl | rfl | rfl | rfl | rfl <;> decide), if_pos hk, if_pos (by omega)]
theorem tyS_9 {v : Nat} (hv : v ≤ 99999) {stk : List Bool} (hs : stk.length ≤ 31) : tyS 9 (nI v) stk = some (false :: stk) := by
  unfold tyS
  rw [if_pos rfl, if_pos ⟨by rw [nI_toInt (by omega)]; omega, by omega⟩]
theorem cod_9 (v : Int32) : cod 9 v = v := by
  unfold cod
  rw [if_neg (by decide), if_neg (by decide), if_neg (by decide), if_neg (by decide), if_neg (by decide), if_neg (by decide), if_neg (by decide), if_neg (by decide), if_neg (by decide), if_pos rfl]
/-- the class's part (it stands in the class's loop over a sum), and what comes behind it: f where it is wrong, g where it is put -/
def partK {α : Type} (f g : Hp → Option α) (h : Hp) : Option α :=
  ob (F_X10_partNamed 1 h) fun r2 => (if r2 = (-1 : Int32) then ob2 (F_X6_takeNumber 1 (0 : Int32) (99999 : Int32) h) fun r4 h5 => gd (decide (kd h 1 = 6)) <| (if r4 = 0 then f h5 else gd (decide (kd h5 1 = 6)) <| ob2 (F_X10_put 38 (zI h5 1 5) h5) fun _ h10 => gd (decide (kd h5 38 = 9)) <| g h10) else ob2 (F_X6_lookAtNext 1 h) fun _ h27 => gd (decide (kd h 1 = 6)) <| ob2 (F_X10_put 38 r2 h27) fun _ h10 => gd (decide (kd h27 38 = 9)) <| g h10)
def partC : Hp → Option (Int32 × Hp) := partK (fun h => some (0, h)) (fun h => some (1, h))
theorem gd_ob2 {α β γ : Type} (c : Bool) (x : Option (α × β)) (f : α → β → Option γ) : ob2 (gd c x) f = gd c (ob2 x f) := by cases c <;> rfl
theorem partK_C {α : Type} (f g : Hp → Option α) (h : Hp) : partK f g h = ob2 (partC h) (fun r h' => if r = 0 then f h' else g h') := by
  unfold partC partK
  cases F_X10_partNamed 1 h with
  | none => rfl
  | some r2 =>
    rw [ob_s, ob_s]
    by_cases e : r2 = -1
    · rw [if_pos e, if_pos e]
      cases F_X6_takeNumber 1 0 99999 h with
      | none => rfl
      | some z =>
        obtain ⟨r4, h5⟩ := z
        rw [ob2_s, ob2_s, gd_ob2]
        congr 1
        by_cases e4 : r4 = 0
        · rw [if_pos e4, if_pos e4, ob2_s, if_pos rfl]
        · rw [if_neg e4, if_neg e4, gd_ob2]
          congr 1
          cases F_X10_put 38 (zI h5 1 5) h5 with
          | none => rfl
          | some z =>
            obtain ⟨r9, h10⟩ := z
            rw [ob2_s, ob2_s, gd_ob2, ob2_s, if_neg (by decide)]
    · rw [if_neg e, if_neg e]
      cases F_X6_lookAtNext 1 h with
      | none => rfl
      | some z =>
        obtain ⟨r4, h5⟩ := z
        rw [ob2_s, ob2_s, gd_ob2]
        congr 1
        cases F_X10_put 38 r2 h5 with
        | none => rfl
        | some z =>
          obtain ⟨r9, h10⟩ := z
          rw [ob2_s, ob2_s, gd_ob2, ob2_s, if_neg (by decide)]
theorem part_w (s : Sh h) (e : ES b n F i d st p J K G) {l : List Int32} (hl : 0 < l.length) (ew : tIs b n (tS b n p) l) {k c : Int32} (hk : k = 0 ∨ k = 1 ∨ k = 2 ∨ k = 3 ∨ k = 4 ∨ k = 5) (hc : cod k 0 = c) (hc1 : c ≠ -1) (pn : F_X10_partNamed 1 (cT h b n J F (tS b n p) t (-1)) = some c) (pm : ∀ hM, Sh hM → F_X12_readPart 59 (rfT hM K G p g) = F_X12_readPart_b112 59 k (rfT hM K G (tW b n (tS b n p)) (tS b n p))) : WO h b n F i 31 false d st p J K G (partC (cT h b n J F (tS b n p) t (-1))) (fun hM => F_X12_readPart 59 (rfT hM K G p g)) := by
  obtain ⟨tc, tm, e3, e4, e5, e6, hp⟩ := id e
  have hn := tc.1
  have hq := tS_le (b := b) hp
  have hg := tS_ge (b := b) (n := n) p
  have lt := tIs_lt hl ew
  right
  refine ⟨st + 1, pJ J (st + i) c, t, eK K st k 0, eG G st, tW b n (tS b n p), tS b n p, ?_, fun hM sM => ?_, tTo_le isLe b hq, ?_⟩
  · unfold partC partK
    rw [pn, ob_s, if_neg hc1, x_nxt s tc hq, ob2_s, cT_k, gd_d (k1 s), x_cput s e3 (by omega), ob2_s, cT_k, gd_d (k38 s).1, tN_w lt]
  · show F_X12_readPart 59 (rfT hM K G p g) = _
    rw [pm hM sM]
    unfold F_X12_readPart_b112 F_X12_readPart_b119 F_X12_readPart_b128
    rw [m_emit sM e4 (by omega), ob2_s, m_k, gd_d (k59 sM), if_neg (by rcases hk with rfl | rfl | rfl | rfl | rfl | rfl <;> decide), gd_d (Or.inr rfl)]
  · have r := TR_push (B := 31) (ty := false) (p' := tW b n (tS b n p)) e (k := k) (v := 0) (by omega) (fun stk hs => tyS_w hk hs)
    rw [hc] at r
    exact r
set_option maxHeartbeats 1000000 in
theorem part_nt (s : Sh h) : NT h b n F i 31 false d partC (F_X12_readPart 59) := by
  intro st p g J K G t e
  obtain ⟨tc, tm, e3, e4, e5, e6, hp⟩ := id e
  have hn := tc.1
  have hq := tS_le (b := b) hp
  have hg := tS_ge (b := b) (n := n) p
  have id0 := tS_idem (b := b) hp
  have wl : tW b n (tS b n p) ≤ n := tTo_le isLe b hq
  have dl : tD b n (tS b n p) ≤ n := tTo_le isDi b hq
  have wg : tS b n p ≤ tW b n (tS b n p) := tTo_ge isLe b n _
  have let0 : ∀ hM, Sh hM → F_X12_letters 59 (rfT hM K G p g) = some ((), rfT hM K G (tW b n (tS b n p)) (tS b n p)) := fun hM sM => m_letters sM tm hp
  by_cases lt : tS b n p < tW b n (tS b n p)
  · have ne : ¬ nI (tW b n (tS b n p)) = nI (tS b n p) := fun x => by have := (nI_eq (by omega) (by omega)).mp x; omega
    have nd : ¬ tS b n p < tD b n (tS b n p) := fun x => tK_d hq x lt
    have hd : ∀ hM, Sh hM → F_X12_readPart 59 (rfT hM K G p g) = ob (F_X12_isWord 59 57 (rfT hM K G (tW b n (tS b n p)) (tS b n p))) fun r7 => (if r7 = 0 then ob (F_X12_isWord 59 58 (rfT hM K G (tW b n (tS b n p)) (tS b n p))) fun r9 => (if r9 = 0 then ob (F_X12_isWord 59 59 (rfT hM K G (tW b n (tS b n p)) (tS b n p))) fun r11 => (if r11 = 0 then ob (F_X12_isWord 59 60 (rfT hM K G (tW b n (tS b n p)) (tS b n p))) fun r13 => (if r13 = 0 then ob (F_X12_isWord 59 48 (rfT hM K G (tW b n (tS b n p)) (tS b n p))) fun r15 => (if r15 = 0 then ob (F_X12_isWord 59 42 (rfT hM K G (tW b n (tS b n p)) (tS b n p))) fun r17 => (if r17 = 0 then F_X12_readPart_b112 59 (-1 : Int32) (rfT hM K G (tW b n (tS b n p)) (tS b n p)) else F_X12_readPart_b112 59 (5 : Int32) (rfT hM K G (tW b n (tS b n p)) (tS b n p))) else F_X12_readPart_b112 59 (4 : Int32) (rfT hM K G (tW b n (tS b n p)) (tS b n p))) else F_X12_readPart_b112 59 (3 : Int32) (rfT hM K G (tW b n (tS b n p)) (tS b n p))) else F_X12_readPart_b112 59 (2 : Int32) (rfT hM K G (tW b n (tS b n p)) (tS b n p))) else F_X12_readPart_b112 59 (1 : Int32) (rfT hM K G (tW b n (tS b n p)) (tS b n p))) else F_X12_readPart_b112 59 (0 : Int32) (rfT hM K G (tW b n (tS b n p)) (tS b n p))) := fun hM sM => by
      unfold F_X12_readPart F_X12_readPart_b0
      rw [let0 hM sM, ob2_s, m_k, gd_d (k59 sM), m_k, gd_d (k59 sM), m_r7, m_r9, if_neg ne]
    by_cases w0 : tIs b n (tS b n p) w_x
    · refine part_w s e (l := w_x) (by decide) w0 (k := 0) (c := -10) (by decide) (by decide) (by decide) ?_ (fun hM sM => ?_)
      · unfold F_X10_partNamed F_X10_partNamed_b0
        rw [x_isW1 s tc hq wrd_18 w0, ob_s, cT_k, gd_d (k1 s), if_neg (by decide)]
      · rw [hd hM sM, m_isW1 sM tm hq wrd_57 w0, ob_s, if_neg (by decide)]
    by_cases w1 : tIs b n (tS b n p) w_y
    · refine part_w s e (l := w_y) (by decide) w1 (k := 1) (c := -11) (by decide) (by decide) (by decide) ?_ (fun hM sM => ?_)
      · unfold F_X10_partNamed F_X10_partNamed_b0
        rw [x_isW0 s tc hq wrd_18 w0, ob_s, cT_k, gd_d (k1 s), if_pos rfl, x_isW1 s tc hq wrd_19 w1, ob_s, if_neg (by decide)]
      · rw [hd hM sM, m_isW0 sM tm hq wrd_57 w0, ob_s, if_pos rfl, m_isW1 sM tm hq wrd_58 w1, ob_s, if_neg (by decide)]
    by_cases w2 : tIs b n (tS b n p) w_far
    · refine part_w s e (l := w_far) (by decide) w2 (k := 2) (c := -12) (by decide) (by decide) (by decide) ?_ (fun hM sM => ?_)
      · unfold F_X10_partNamed F_X10_partNamed_b0
        rw [x_isW0 s tc hq wrd_18 w0, ob_s, cT_k, gd_d (k1 s), if_pos rfl, x_isW0 s tc hq wrd_19 w1, ob_s, if_pos rfl, x_isW1 s tc hq wrd_20 w2, ob_s, if_neg (by decide)]
      · rw [hd hM sM, m_isW0 sM tm hq wrd_57 w0, ob_s, if_pos rfl, m_isW0 sM tm hq wrd_58 w1, ob_s, if_pos rfl, m_isW1 sM tm hq wrd_59 w2, ob_s, if_neg (by decide)]
    by_cases w3 : tIs b n (tS b n p) w_heads
    · refine part_w s e (l := w_heads) (by decide) w3 (k := 3) (c := -13) (by decide) (by decide) (by decide) ?_ (fun hM sM => ?_)
      · unfold F_X10_partNamed F_X10_partNamed_b0
        rw [x_isW0 s tc hq wrd_18 w0, ob_s, cT_k, gd_d (k1 s), if_pos rfl, x_isW0 s tc hq wrd_19 w1, ob_s, if_pos rfl, x_isW0 s tc hq wrd_20 w2, ob_s, if_pos rfl, x_isW1 s tc hq wrd_21 w3, ob_s, if_neg (by decide)]
      · rw [hd hM sM, m_isW0 sM tm hq wrd_57 w0, ob_s, if_pos rfl, m_isW0 sM tm hq wrd_58 w1, ob_s, if_pos rfl, m_isW0 sM tm hq wrd_59 w2, ob_s, if_pos rfl, m_isW1 sM tm hq wrd_60 w3, ob_s, if_neg (by decide)]
    by_cases w4 : tIs b n (tS b n p) w_snow
    · refine part_w s e (l := w_snow) (by decide) w4 (k := 4) (c := -14) (by decide) (by decide) (by decide) ?_ (fun hM sM => ?_)
      · unfold F_X10_partNamed F_X10_partNamed_b0
        rw [x_isW0 s tc hq wrd_18 w0, ob_s, cT_k, gd_d (k1 s), if_pos rfl, x_isW0 s tc hq wrd_19 w1, ob_s, if_pos rfl, x_isW0 s tc hq wrd_20 w2, ob_s, if_pos rfl, x_isW0 s tc hq wrd_21 w3, ob_s, if_pos rfl, x_isW1 s tc hq wrd_22 w4, ob_s, if_neg (by decide)]
      · rw [hd hM sM, m_isW0 sM tm hq wrd_57 w0, ob_s, if_pos rfl, m_isW0 sM tm hq wrd_58 w1, ob_s, if_pos rfl, m_isW0 sM tm hq wrd_59 w2, ob_s, if_pos rfl, m_isW0 sM tm hq wrd_60 w3, ob_s, if_pos rfl, m_isW1 sM tm hq wrd_48 w4, ob_s, if_neg (by decide)]
    by_cases w5 : tIs b n (tS b n p) w_room
    · refine part_w s e (l := w_room) (by decide) w5 (k := 5) (c := -15) (by decide) (by decide) (by decide) ?_ (fun hM sM => ?_)
      · unfold F_X10_partNamed F_X10_partNamed_b0
        rw [x_isW0 s tc hq wrd_18 w0, ob_s, cT_k, gd_d (k1 s), if_pos rfl, x_isW0 s tc hq wrd_19 w1, ob_s, if_pos rfl, x_isW0 s tc hq wrd_20 w2, ob_s, if_pos rfl, x_isW0 s tc hq wrd_21 w3, ob_s, if_pos rfl, x_isW0 s tc hq wrd_22 w4, ob_s, if_pos rfl, x_isW1 s tc hq wrd_23 w5, ob_s, if_neg (by decide)]
        rfl
      · rw [hd hM sM, m_isW0 sM tm hq wrd_57 w0, ob_s, if_pos rfl, m_isW0 sM tm hq wrd_58 w1, ob_s, if_pos rfl, m_isW0 sM tm hq wrd_59 w2, ob_s, if_pos rfl, m_isW0 sM tm hq wrd_60 w3, ob_s, if_pos rfl, m_isW0 sM tm hq wrd_48 w4, ob_s, if_pos rfl, m_isW1 sM tm hq wrd_42 w5, ob_s, if_neg (by decide)]
    left
    refine ⟨tS b n p, tS b n p, J, t, eK K st (-1) 0, eG G st, tW b n (tS b n p), ?_, fun hM sM => ?_, WF_e⟩
    · have pn : F_X10_partNamed 1 (cT h b n J F (tS b n p) t (-1)) = some (-1) := by
        unfold F_X10_partNamed F_X10_partNamed_b0
        rw [x_isW0 s tc hq wrd_18 w0, ob_s, cT_k, gd_d (k1 s), if_pos rfl, x_isW0 s tc hq wrd_19 w1, ob_s, if_pos rfl, x_isW0 s tc hq wrd_20 w2, ob_s, if_pos rfl, x_isW0 s tc hq wrd_21 w3, ob_s, if_pos rfl, x_isW0 s tc hq wrd_22 w4, ob_s, if_pos rfl, x_isW0 s tc hq wrd_23 w5, ob_s, if_pos rfl]
        rfl
      unfold partC partK
      rw [pn, ob_s, if_pos rfl, x_tN0 s tc hq (fun x => nd x.1), ob2_s, cT_k, gd_d (k1 s), if_pos rfl]
    · show F_X12_readPart 59 (rfT hM K G p g) = _
      rw [hd hM sM, m_isW0 sM tm hq wrd_57 w0, ob_s, if_pos rfl, m_isW0 sM tm hq wrd_58 w1, ob_s, if_pos rfl, m_isW0 sM tm hq wrd_59 w2, ob_s, if_pos rfl, m_isW0 sM tm hq wrd_60 w3, ob_s, if_pos rfl, m_isW0 sM tm hq wrd_48 w4, ob_s, if_pos rfl, m_isW0 sM tm hq wrd_42 w5, ob_s, if_pos rfl]
      unfold F_X12_readPart_b112 F_X12_readPart_b119 F_X12_readPart_b128
      rw [m_emit sM e4 (by omega), ob2_s, m_k, gd_d (k59 sM), if_pos (by decide), gd_d (Or.inl rfl)]
  · have ew : tW b n (tS b n p) = tS b n p := by omega
    have nw : ∀ l : List Int32, 0 < l.length → ¬ tIs b n (tS b n p) l := fun l hl x => by have := tIs_lt hl x; omega
    have x0 : tS b n (tW b n (tS b n p)) = tS b n p := by rw [ew, id0]
    have pn : F_X10_partNamed 1 (cT h b n J F (tS b n p) t (-1)) = some (-1) := by
      unfold F_X10_partNamed F_X10_partNamed_b0
      rw [x_isW0 s tc hq wrd_18 (nw w_x (by decide)), ob_s, cT_k, gd_d (k1 s), if_pos rfl, x_isW0 s tc hq wrd_19 (nw w_y (by decide)), ob_s, if_pos rfl, x_isW0 s tc hq wrd_20 (nw w_far (by decide)), ob_s, if_pos rfl, x_isW0 s tc hq wrd_21 (nw w_heads (by decide)), ob_s, if_pos rfl, x_isW0 s tc hq wrd_22 (nw w_snow (by decide)), ob_s, if_pos rfl, x_isW0 s tc hq wrd_23 (nw w_room (by decide)), ob_s, if_pos rfl]
      rfl
    by_cases ok : tOk b n (tS b n p) 0 99999
    · right
      have v1 := tOk_le (m := 99999) hq ok
      refine ⟨st + 1, pJ J (st + i) (nI (tVl b n (tS b n p))), nI (tVl b n (tS b n p)), eK K st 9 (nI (tVl b n (tS b n p))), eG G st, tD b n (tS b n p), tS b n p, ?_, fun hM sM => ?_, dl, ?_⟩
      · unfold partC partK
        rw [pn, ob_s, if_pos rfl, x_tN1 s tc hq ok, ob2_s, cT_k, gd_d (k1 s), if_neg (by decide), cT_k, gd_d (k1 s), cT_5, x_cput s e3 (by omega), ob2_s, cT_k, gd_d (k38 s).1, tN_d hq ok.1]
      · show F_X12_readPart 59 (rfT hM K G p g) = _
        unfold F_X12_readPart F_X12_readPart_b0
        rw [let0 hM sM, ob2_s, m_k, gd_d (k59 sM), m_k, gd_d (k59 sM), m_r7, m_r9, if_pos (by rw [ew]), m_num1' sM tm wl x0 ok, ob2_s, m_emit sM e4 (by omega), ob2_s, m_k, gd_d (k59 sM)]
        unfold F_X12_readPart_b119 F_X12_readPart_b128
        rw [if_neg (nI_pos (by omega)), gd_d (Or.inr rfl)]
      · have r := TR_push (B := 31) (ty := false) (p' := tD b n (tS b n p)) e (k := 9) (v := nI (tVl b n (tS b n p))) (by have := ok.1; omega) (fun stk hs => tyS_9 v1 hs)
        rw [cod_9] at r
        exact r
    · left
      refine ⟨tS b n p, tS b n p, J, t, eK K st 9 (-1), eG G st, tD b n (tS b n p), ?_, fun hM sM => ?_, WF_e⟩
      · unfold partC partK
        rw [pn, ob_s, if_pos rfl, x_tN0 s tc hq ok, ob2_s, cT_k, gd_d (k1 s), if_pos rfl]
      · show F_X12_readPart 59 (rfT hM K G p g) = _
        unfold F_X12_readPart F_X12_readPart_b0
        rw [let0 hM sM, ob2_s, m_k, gd_d (k59 sM), m_k, gd_d (k59 sM), m_r7, m_r9, if_pos (by rw [ew]), m_num0' sM tm wl x0 ok, ob2_s, m_emit sM e4 (by omega), ob2_s, m_k, gd_d (k59 sM)]
        unfold F_X12_readPart_b119 F_X12_readPart_b128
        rw [if_pos (by decide), gd_d (Or.inl rfl)]
end PART
