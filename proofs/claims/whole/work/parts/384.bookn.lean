/-! TEXTS: the book's lines -/
section BOOKN
variable {h : Hp} {b : Nat → Int32} {n : Nat} {F : Nat → Int32}
theorem sort_book : SortOk 2 (F_X12_readPage 59) 20 := by
  intro hM sM b n K G p g i tm hp hi
  have e : F_X12_readLine 59 2 (nI i) (rfT hM K G p g) = F_X12_readLine_b26 59 2 (nI i) (nI i) 20 (rfT hM K G (tW b n (tS b n p)) (tS b n p)) := by
    unfold F_X12_readLine F_X12_readLine_b0
    rw [m_letters sM tm hp, ob2_s, m_k, gd_d (k59 sM), if_neg (by decide), if_neg (by decide)]
  constructor
  · intro hi2
    rw [e]
    unfold F_X12_readLine_b26
    rw [if_pos (by rw [hi2]; rfl)]
  · intro hi2 r h' hr h01
    rw [e]
    unfold F_X12_readLine_b26
    have n20 : ¬ nI i = (20 : Int32) := fun x => absurd ((nI_eq (a := i) (b := 20) (by omega) (by omega)).mp x) (by omega)
    rw [if_neg n20, if_neg (by decide), if_neg (by decide), hr, ob2_s, m_k, gd_d (k59 sM)]
    unfold F_X12_readLine_b60
    rw [gd_d h01]
theorem RB_F {J0 K0 J K : Nat → Nat → Int32} {G0 G : Nat → Int32} {i : Nat} (r : RB h b n F J0 K0 G0 i J K G) : TC b n J F ∧ TM b n K G ∧ RBF J0 K0 G0 J K G := ⟨r.1, r.2.1, r.2.2.2.1, r.2.2.2.2.1, r.2.2.2.2.2.1⟩
theorem ea_eq {J0 K0 J K : Nat → Nat → Int32} {G0 G : Nat → Int32} {i : Nat} (r : RB h b n F J0 K0 G0 i J K G) : eaM K i = eaC J i := by
  unfold eaM eaC
  by_cases q0 : i = 0
  · rw [if_pos q0, if_pos q0]
  · rw [if_neg q0, if_neg q0]
    obtain ⟨m, _, m2, m3⟩ := (r.2.2.2.2.2.2 (i - 1) (by omega)).1
    rw [m2, show 3 * i - 3 = 3 * (i - 1) by omega, m3]
theorem fr_J {J0 J : Nat → Nat → Int32} (fJ : ∀ a, (a < 41 ∨ 44 < a) → J a = J0 a) {c k : Nat} {v : Int32} (hc : 41 ≤ c ∧ c ≤ 44) : ∀ a, (a < 41 ∨ 44 < a) → up2 J c k v a = J0 a := fun a ha => by
  rw [up2_a _ _ _ _ _ (by omega)]
  exact fJ a ha
theorem fr_K {K0 K : Nat → Nat → Int32} (fK : ∀ a, a ≠ 65 → K a = K0 a) {k : Nat} {v : Int32} : ∀ a, a ≠ 65 → up2 K 65 k v a = K0 a := fun a ha => by
  rw [up2_a _ _ _ _ _ ha]
  exact fK a ha
theorem book_line (s : Sh h) {J0 K0 : Nat → Nat → Int32} {G0 : Nat → Int32} {m r : Nat} (eg : J0 3 5 = nI m) (er : J0 3 0 = nI r) (eg2 : K0 60 1 = nI m) (er2 : K0 60 0 = nI r) (hm : m = nG (K0 60)) (hr : r = nR (K0 60)) (hm5 : m ≤ 5) (hr8 : r ≤ 8) : LineOk h b n F (F_X0_readLine 41 1 3) (F_X12_readPage 59) 20 41 (RB h b n F J0 K0 G0) (RBF J0 K0 G0) := by
  intro i q J K G t hi hq _ rel
  have ea := ea_eq rel
  obtain ⟨tc, tm, e0, eG, fJ, fK, vals⟩ := rel
  have gJ : J 3 5 = nI m := by rw [fJ 3 (Or.inl (by omega))]; exact eg
  have rJ : J 3 0 = nI r := by rw [fJ 3 (Or.inl (by omega))]; exact er
  have gK : K 60 1 = nI m := by rw [fK 60 (by decide)]; exact eg2
  have rK : K 60 0 = nI r := by rw [fK 60 (by decide)]; exact er2
  have h1 := tN_le (b := b) hq
  have h2 := tN_le (b := b) h1
  have h3 := tN_le (b := b) h2
  have h4 := tN_le (b := b) h3
  rw [cb_head s hi e0]
  by_cases e1 : tIs b n q [97, 116]
  · have hd : ∀ hM, Sh hM → F_X12_readPage 59 (nI i) (rfT hM K G (tW b n q) q) = F_X12_readPage_b37 59 (nI i) 65 (nI (3 * i)) 59 (eaC J i) (rfT hM K G (tW b n q) q) := fun hM sM => by rw [mb_head sM tm hq hi e1, ea]
    by_cases e2 : tOk b n (tN b n q) (eaC J i) 999
    · by_cases e3 : tOk b n (tN b n (tN b n q)) 0 (nI m - 1)
      · by_cases e4 : tIs b n (tN b n (tN b n (tN b n q))) [116, 111]
        · by_cases e5 : tOk b n (tN b n (tN b n (tN b n (tN b n q)))) 0 (nI r - 1)
          · right
            have v1 := tOk_le (m := 999) h1 e2
            have v2 := tOk_lt h2 (by omega) e3
            have v3 := tOk_lt h4 (by omega) e5
            refine ⟨_, _, _, _, G, _, _, cb_1 s tc hq hi e1 e2 gJ e3 e4 rJ e5, fun hM sM => (hd hM sM).trans (r_ok sM tm hq hi e1 e2 gK e3 e4 rK e5), tTo_le isDi b h4, tN_d h4 e5.1, TC_up (TC_up (TC_up tc (by decide)) (by decide)) (by decide), TM_up (TM_up (TM_up tm (by decide)) (by decide)) (by decide), ?_, TC_up (TC_up (TC_up (TC_up tc (by decide)) (by decide)) (by decide)) (by decide), TM_up (TM_up (TM_up tm (by decide)) (by decide)) (by decide), up2_e _ _ _ _, eG, fr_J (fr_J (fr_J (fr_J fJ (by omega)) (by omega)) (by omega)) (by omega), fr_K (fr_K (fr_K fK)), fun j hj => ?_⟩
            · rw [up2_a _ _ _ _ _ (by decide), up2_a _ _ _ _ _ (by decide), up2_a _ _ _ _ _ (by decide)]
              exact e0
            · by_cases ej : j = i
              · subst ej
                refine ⟨⟨tVl b n (tN b n q), by omega, ?_, ?_⟩, ⟨tVl b n (tN b n (tN b n q)), by omega, ?_, ?_⟩, ⟨tVl b n (tN b n (tN b n (tN b n (tN b n q)))), by omega, ?_, ?_⟩⟩
                · rw [up2_a _ _ _ _ _ (by decide), up2_a _ _ _ _ _ (by decide), up2_a _ _ _ _ _ (by decide), up2_e]
                · rw [up2_k _ _ _ _ _ (by omega), up2_k _ _ _ _ _ (by omega), up2_e]
                · rw [up2_a _ _ _ _ _ (by decide), up2_a _ _ _ _ _ (by decide), up2_e]
                · rw [up2_k _ _ _ _ _ (by omega), up2_e]
                · rw [up2_a _ _ _ _ _ (by decide), up2_e]
                · rw [up2_e]
              · obtain ⟨⟨x1, y1, z1, w1⟩, ⟨x2, y2, z2, w2⟩, ⟨x3, y3, z3, w3⟩⟩ := vals j (by omega)
                refine ⟨⟨x1, y1, ?_, ?_⟩, ⟨x2, y2, ?_, ?_⟩, ⟨x3, y3, ?_, ?_⟩⟩
                · rw [up2_a _ _ _ _ _ (by decide), up2_a _ _ _ _ _ (by decide), up2_a _ _ _ _ _ (by decide), up2_k _ _ _ _ _ ej]
                  exact z1
                · rw [up2_k _ _ _ _ _ (by omega), up2_k _ _ _ _ _ (by omega), up2_k _ _ _ _ _ (by omega)]
                  exact w1
                · rw [up2_a _ _ _ _ _ (by decide), up2_a _ _ _ _ _ (by decide), up2_k _ _ _ _ _ ej, up2_a _ _ _ _ _ (by decide)]
                  exact z2
                · rw [up2_k _ _ _ _ _ (by omega), up2_k _ _ _ _ _ (by omega), up2_k _ _ _ _ _ (by omega)]
                  exact w2
                · rw [up2_a _ _ _ _ _ (by decide), up2_k _ _ _ _ _ ej, up2_a _ _ _ _ _ (by decide), up2_a _ _ _ _ _ (by decide)]
                  exact z3
                · rw [up2_k _ _ _ _ _ (by omega), up2_k _ _ _ _ _ (by omega), up2_k _ _ _ _ _ (by omega)]
                  exact w3
          · left
            exact ⟨_, _, _, _, _, G, _, c_f4 s tc hq hi e1 e2 gJ e3 e4 rJ e5, fun hM sM => (hd hM sM).trans (r_f4 sM tm hq hi e1 e2 gK e3 e4 rK e5), eG, fr_J (fr_J fJ (by omega)) (by omega), fr_K (fr_K (fr_K fK))⟩
        · left
          exact ⟨_, _, _, _, _, G, _, c_f3 s tc hq hi e1 e2 gJ e3 e4, fun hM sM => (hd hM sM).trans (r_f3 sM tm hq hi e1 e2 gK e3 e4), eG, fr_J (fr_J fJ (by omega)) (by omega), fr_K (fr_K fK)⟩
      · left
        exact ⟨_, _, _, _, _, G, _, c_f2 s tc hq hi e1 e2 gJ e3, fun hM sM => (hd hM sM).trans (r_f2 sM tm hq hi e1 e2 gK e3), eG, fr_J fJ (by omega), fr_K (fr_K fK)⟩
    · left
      exact ⟨_, _, _, _, _, G, _, c_f1 s tc hq e1 e2, fun hM sM => (hd hM sM).trans (r_f1 sM tm hq hi e1 e2), eG, fJ, fr_K (fr_K fK)⟩
  · left
    refine ⟨_, _, _, _, K, G, tW b n q, c_f0 s tc hq e1, fun hM sM => ?_, eG, fJ, fK⟩
    unfold F_X12_readPage F_X12_readPage_b0
    rw [m_isW0 sM tm hq wd_at2 e1, ob_s, m_k, gd_d (k59 sM), if_pos rfl]
theorem cS_self : cS h (zI h) (zI h 1) = h := by
  show wI h (va_up (zI h) 1 (zI h 1)) = h
  have : va_up (zI h) 1 (zI h 1) = zI h := by
    funext a
    by_cases e : a = 1
    · subst e
      rw [va_e]
    · rw [va_n _ _ _ _ e]
  rw [this]
  rfl
theorem rfS_self : rfS h (zI h) (zI h 59) = h := by
  show wI h (va_up (zI h) 59 (zI h 59)) = h
  have : va_up (zI h) 59 (zI h 59) = zI h := by
    funext a
    by_cases e : a = 59
    · subst e
      rw [va_e]
    · rw [va_n _ _ _ _ e]
  rw [this]
  rfl
end BOOKN
