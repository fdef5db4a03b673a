/-! THE HOUSE'S LINES: how a line may end -/
section HO
variable {h : Hp} {b : Nat → Int32} {n : Nat} {F : Nat → Int32} {J0 K0 J K J' : Nat → Nat → Int32} {G0 G : Nat → Int32} {i : Nat} {rc : Option (Int32 × Hp)} {rm : Hp → Option (Int32 × Hp)}
def HO (h : Hp) (b : Nat → Int32) (n : Nat) (F : Nat → Int32) (J0 K0 : Nat → Nat → Int32) (G0 : Nat → Int32) (i : Nat) (rc : Option (Int32 × Hp)) (rm : Hp → Option (Int32 × Hp)) : Prop :=
  (∃ f q' J' t' K' G' p', rc = some (0, cT h b n J' F q' t' (nI f)) ∧ (∀ hM, Sh hM → rm hM = some (0, rfT hM K' G' p' f)) ∧ RHF J0 K0 G0 J' K' G') ∨
  (∃ q' J' t' K' G' p' g', rc = some (1, cT h b n J' F q' t' (-1)) ∧ (∀ hM, Sh hM → rm hM = some (1, rfT hM K' G' p' g')) ∧ p' ≤ n ∧ tS b n p' = q' ∧ TC b n J' F ∧ TM b n K' G' ∧ J' 36 0 = nI i ∧ RHs b n F J0 K0 G0 (i + 1) (up2 J' 36 0 (nI (i + 1))) K' G')
theorem HO_no (r : RHs b n F J0 K0 G0 i J K G) {f q' p' : Nat} {t' : Int32} (e1 : rc = some (0, cT h b n J' F q' t' (nI f))) (K' : Nat → Nat → Int32) (e2 : ∀ hM, Sh hM → rm hM = some (0, rfT hM K' G p' f)) (fJ : ∀ x, x ≠ 36 → x ≠ 37 → J' x = J x) (fK : ∀ x, x ≠ 60 → K' x = K x) : HO h b n F J0 K0 G0 i rc rm := by
  obtain ⟨tc, tm, e0, eG, gJ, gK, -⟩ := r
  exact Or.inl ⟨f, q', J', t', K', G, p', e1, e2, eG, fun x h1 h2 => (fJ x h1 h2).trans (gJ x h1 h2), fun x h1 => (fK x h1).trans (gK x h1)⟩
theorem tell_w (f : Nat → Int32) {k a c d w : Nat} (hw : w < 6) (hk : w = k → 3 ≤ k) : tellW f k a c d w = f w := by
  have hk2 : k = 0 ∨ k = 1 ∨ k = 2 ∨ k = 3 ∨ k = 4 ∨ k = 5 ∨ k = 6 ∨ k = 7 ∨ 8 ≤ k := by omega
  rcases hk2 with rfl | rfl | rfl | rfl | rfl | rfl | rfl | rfl | hk2
  · show va_up (va_up (va_up (va_up (va_up f (11 + 4 * nR f) (nI a)) (12 + 4 * nR f) (nI c)) (13 + 4 * nR f) (nI d)) (14 + 4 * nR f) 0) 0 (nI (nR f + 1)) w = _
    rw [va_o _ _ (by omega), va_o _ _ (by omega), va_o _ _ (by omega), va_o _ _ (by omega), va_o _ _ (by omega)]
  · show va_up (va_up (va_up (va_up f (43 + 2 * nG f) (nI a)) (44 + 2 * nG f) (nI c)) (147 + 817 * nG f) 0) 1 (nI (nG f + 1)) w = _
    rw [va_o _ _ (by omega), va_o _ _ (by omega), va_o _ _ (by omega), va_o _ _ (by omega)]
  · show va_up (va_up (va_up (va_up f (53 + 3 * nT f) (nI a)) (54 + 3 * nT f) (nI c)) (55 + 3 * nT f) (nI d)) 2 (nI (nT f + 1)) w = _
    rw [va_o _ _ (by omega), va_o _ _ (by omega), va_o _ _ (by omega), va_o _ _ (by omega)]
  · show va_up (va_up f 7 (nI a)) 6 (nI c) w = _
    rw [va_o _ _ (by omega), va_o _ _ (by omega)]
  · exact va_o _ _ (by omega)
  · exact va_o _ _ (by omega)
  · exact va_o _ _ (by omega)
  · exact va_o _ _ (by omega)
  · obtain ⟨k, rfl⟩ : ∃ x, k = x + 8 := ⟨k - 8, by omega⟩
    exact va_o _ _ (by omega)
theorem tell_R {f : Nat → Int32} {k a c d : Nat} (o : okRow f k a c d) : nR (tellW f k a c d) = if k = 0 then nR f + 1 else nR f := by
  by_cases e : k = 0
  · subst e
    have o1 : nR f < 8 := o.1
    rw [if_pos rfl]
    have e0 : tellW f 0 a c d 0 = nI (nR f + 1) := va_e _ _ _
    show (tellW f 0 a c d 0).toNatClampNeg = _
    rw [e0, ncl (by omega)]
  · rw [if_neg e]
    show (tellW f k a c d 0).toNatClampNeg = (f 0).toNatClampNeg
    rw [tell_w f (by omega) (by omega)]
theorem tell_G {f : Nat → Int32} {k a c d : Nat} (o : okRow f k a c d) : nG (tellW f k a c d) = if k = 1 then nG f + 1 else nG f := by
  by_cases e : k = 1
  · subst e
    have o1 : nG f < 5 := o.1
    rw [if_pos rfl]
    have e0 : tellW f 1 a c d 1 = nI (nG f + 1) := va_e _ _ _
    show (tellW f 1 a c d 1).toNatClampNeg = _
    rw [e0, ncl (by omega)]
  · rw [if_neg e]
    show (tellW f k a c d 1).toNatClampNeg = (f 1).toNatClampNeg
    rw [tell_w f (by omega) (by omega)]
theorem tell_T {f : Nat → Int32} {k a c d : Nat} (o : okRow f k a c d) : nT (tellW f k a c d) = if k = 2 then nT f + 1 else nT f := by
  by_cases e : k = 2
  · subst e
    have o1 : nT f < 6 := o.1
    rw [if_pos rfl]
    have e0 : tellW f 2 a c d 2 = nI (nT f + 1) := va_e _ _ _
    show (tellW f 2 a c d 2).toNatClampNeg = _
    rw [e0, ncl (by omega)]
  · rw [if_neg e]
    show (tellW f k a c d 2).toNatClampNeg = (f 2).toNatClampNeg
    rw [tell_w f (by omega) (by omega)]
theorem HO_ok (r : RHs b n F J0 K0 G0 i J K G) {q' p' g' k a c d : Nat} {t' : Int32} (e1 : rc = some (1, cT h b n J' F q' t' (-1))) (K' : Nat → Nat → Int32) (e2 : ∀ hM, Sh hM → rm hM = some (1, rfT hM K' G p' g')) (hp : p' ≤ n) (eq : tS b n p' = q') (fJ : ∀ x, x ≠ 36 → x ≠ 37 → J' x = J x) (j0 : J' 36 0 = J 36 0) (fR : ∀ x, x < 4 * i → J' 37 x = J 37 x) (fK : ∀ x, x ≠ 60 → K' x = K x) (w0 : nN (J' 37 (4 * i)) = k) (w1 : nN (J' 37 (4 * i + 1)) = a) (w2 : nN (J' 37 (4 * i + 2)) = c) (w3 : nN (J' 37 (4 * i + 3)) = d) (o : okRow (K 60) k a c d) (eK : K' 60 = tellW (K 60) k a c d) (c2 : J' 36 2 = nI (if k = 0 then nR (K 60) + 1 else nR (K 60))) (c3 : J' 36 3 = nI (if k = 1 then nG (K 60) + 1 else nG (K 60))) (c4 : J' 36 4 = nI (if k = 2 then nT (K 60) + 1 else nT (K 60))) : HO h b n F J0 K0 G0 i rc rm := by
  have tc := r.1
  have tm := r.2.1
  have e0 := r.2.2.1
  refine Or.inr ⟨q', J', t', K', G, p', g', e1, e2, hp, eq, ⟨tc.1, tc.2.1, fun j hj => ?_⟩, ⟨tm.1, tm.2.1, fun j hj => ?_⟩, j0.trans e0, RH_s r fJ fR fK w0 w1 w2 w3 o eK ?_ ?_ ?_⟩
  · rw [fJ 2 (by decide) (by decide)]
    exact tc.2.2 j hj
  · rw [fK 63 (by decide)]
    exact tm.2.2 j hj
  · rw [eK, tell_R o]
    exact c2
  · rw [eK, tell_G o]
    exact c3
  · rw [eK, tell_T o]
    exact c4
theorem up2_r (f : Nat → Nat → Int32) (a k : Nat) (v : Int32) : up2 f a k v a = va_up (f a) k v := by
  unfold up2
  rw [va_e]
theorem neg1 : ((-1 : Int32) < 0) = True := eq_true (by decide)
theorem wrd_46 : Wd 46 w_to := wd_to2
theorem nN_e {v : Int32} {a : Nat} (e : v = nI a) (ha : a < 4294967296) : nN v = a := by rw [e, nN_n ha]
theorem ixR (r c d : Nat) (e : 11 + c = d) : ((11 : Int32) + ((4 : Int32) * nI r)) + nI c = nI (d + 4 * r) := by
  rw [nl_11, nl_4, nmul, nadd, nadd]
  congr 1
  omega
theorem ixG (r : Nat) : (43 : Int32) + ((2 : Int32) * nI r) = nI (43 + 2 * r) := by rw [nl_43, nl_2, nmul, nadd]
theorem ixT (r : Nat) : (53 : Int32) + ((3 : Int32) * nI r) = nI (53 + 3 * r) := by rw [nl_53, nl_3, nmul, nadd]
theorem ixG1 (r : Nat) : ((43 : Int32) + ((2 : Int32) * nI r)) + (1 : Int32) = nI (44 + 2 * r) := by
  rw [ixG, nS_1]
  congr 1
  omega
theorem ixT1 (r : Nat) : ((53 : Int32) + ((3 : Int32) * nI r)) + (1 : Int32) = nI (54 + 3 * r) := by
  rw [ixT, nS_1]
  congr 1
  omega
theorem ixT2 (r : Nat) : ((53 : Int32) + ((3 : Int32) * nI r)) + (2 : Int32) = nI (55 + 3 * r) := by
  rw [ixT, nS_2]
  congr 1
  omega
theorem tOk_ge {q m : Nat} {hh : Int32} (h : q ≤ n) (hm : m < 2147483648) (e : tOk b n q (nI m) hh) : m ≤ tVl b n q := by
  by_cases y : m ≤ tVl b n q
  · exact y
  · exact absurd (nI_lt (by omega) hm) e.2.2.1
end HO
