/-! CALL: unnoticed -/
section UNN2
variable {h : Hp}
def unF (f : Nat → Int32) (g k b : Nat) : List Nat := if decide (b % 8 < nR f) && unS f g k (b / 8) (b % 8) then [512 * g + 64 * k + b] else []
def u4 (f : Nat → Int32) (g k r s : Nat) : List Nat := if unS f g k r s then [512 * g + 64 * k + 8 * r + s] else []
def u3 (f : Nat → Int32) (g k r : Nat) : List Nat := cl (u4 f g k r) (nR f)
def u2 (f : Nat → Int32) (g k : Nat) : List Nat := cl (u3 f g k) (nR f)
def u1 (f : Nat → Int32) (g : Nat) : List Nat := cl (fun d => u2 f g (g + 1 + d)) (nG f - (g + 1))
def u0 (f : Nat → Int32) : List Nat := cl (u1 f) (nG f)
theorem un_eq {f : Nat → Int32} (i : Inv f) (g k : Nat) : cl (unF f g k) (8 * nR f) = u2 f g k := by
  have r8 := iR8 i
  rw [cl_mul]
  unfold u2
  refine cl_congr (fun r hr => ?_)
  unfold u3
  rw [cl_cut (n := nR f) r8 (fun s h1 h2 => by
    unfold unF
    rw [show (8 * r + s) % 8 = s by omega, decide_eq_false (by omega), Bool.false_and, if_neg (by decide)])]
  refine cl_congr (fun s hs => ?_)
  unfold unF u4
  rw [show (8 * r + s) % 8 = s by omega, show (8 * r + s) / 8 = r by omega, decide_eq_true hs, Bool.true_and, Nat.add_assoc (512 * g + 64 * k)]
theorem u2_lt {f : Nat → Int32} (i : Inv f) {g k : Nat} (hg : g < 5) (hk : k < 5) : ∀ x, x ∈ cl (unF f g k) (8 * nR f) → x < 4096 := by
  have r8 := iR8 i
  refine cl_mem (fun b hb x hx => ?_)
  unfold unF at hx
  by_cases q : (decide (b % 8 < nR f) && unS f g k (b / 8) (b % 8)) = true
  · rw [if_pos q] at hx
    simp only [List.mem_singleton] at hx
    omega
  · rw [if_neg q] at hx
    cases hx
theorem cl_pre {F : Nat → List Nat} {n m : Nat} (h : n ≤ m) : ∀ x, x ∈ cl F n → x ∈ cl F m := by
  intro x hx
  obtain ⟨k, rfl⟩ : ∃ k, m = n + k := ⟨m - n, by omega⟩
  rw [cl_add, List.mem_append]
  exact Or.inl hx
def stL (L : List Nat) : Int32 × Int32 := (nI L.length, hdN L)
theorem x_unn40 (s : Sh h) (i : Inv (zI h 60)) (c : HR (zI h) 3 (zI h 60)) {g k : Nat} (hg : g < nG (zI h 60)) (hk : k < nG (zI h 60)) {L0 : List Nat} (hL : ∀ x, x ∈ L0 → x < 4096) (v : Int32) : iter (fun z : Int32 × Int32 × Int32 => F_X11_unnoticed_l40 0 v z.1 z.2.1 (nI g) (nI k) z.2.2 h) FU (nI L0.length, hdN L0, 0) = some (stL (L0 ++ u2 (zI h 60) g k)) := by
  have g5 := iG5 i
  have r8 := iR8 i
  have c0 : zI h 3 0 = nI (nR (zI h 60)) := c.1.1.trans (iR i)
  rw [← un_eq i]
  refine iter_at (fun j => (nI (L0 ++ cl (unF (zI h 60) g k) j).length, hdN (L0 ++ cl (unF (zI h 60) g k) j), nI j)) (8 * nR (zI h 60)) _ ?_ (fun j hj => ?_) ?_ (FU_lt (by omega))
  · show _ = (nI (L0 ++ []).length, hdN (L0 ++ []), nI 0)
    rw [List.append_nil]
    rfl
  · show F_X11_unnoticed_l40 0 v (nI (L0 ++ cl (unF (zI h 60) g k) j).length) (hdN (L0 ++ cl (unF (zI h 60) g k) j)) (nI g) (nI k) (nI j) h = _
    have ex := x_unn s i c (g := g) (k := k) (r := j / 8) (t := j % 8) hg hk (by omega) (by omega)
    have hl : ∀ x, x ∈ L0 ++ cl (unF (zI h 60) g k) j → x < 2147483648 := by
      intro x hx
      rw [List.mem_append] at hx
      rcases hx with hx | hx
      · have := hL x hx
        omega
      · have := u2_lt i (show g < 5 by omega) (show k < 5 by omega) x (cl_pre (by omega) x hx)
        omega
    unfold F_X11_unnoticed_l40 F_X11_unnoticed_b100
    rw [gd_d (k0 s), r0_1 s, ob_s, gd_d (k3 s), c0, nl_8, nmul, if_neg (nI_ge (by omega) (by omega)), pk_rem (by omega) (by omega) (by omega), pk_div (by omega) (by omega) (by omega), ex, ob_s, nI_1, nI_1, nl_512, nl_64, nmul, nmul, nadd, nadd, cl_s, ← List.append_assoc]
    have eF : unF (zI h 60) g k j = if decide (j % 8 < nR (zI h 60)) && unS (zI h 60) g k (j / 8) (j % 8) then [512 * g + 64 * k + j] else [] := rfl
    rw [eF]
    cases q : (decide (j % 8 < nR (zI h 60)) && unS (zI h 60) g k (j / 8) (j % 8)) with
    | false =>
      rw [b2_f, if_pos rfl, if_neg (by decide), List.append_nil]
    | true =>
      rw [b2_t, if_neg (by decide), if_pos rfl, hdN_app hl]
      have el : (L0 ++ cl (unF (zI h 60) g k) j ++ [512 * g + 64 * k + j]).length = (L0 ++ cl (unF (zI h 60) g k) j).length + 1 := List.length_append
      rw [el]
      by_cases q2 : hdN (L0 ++ cl (unF (zI h 60) g k) j) = -1
      · rw [if_pos q2, if_pos q2]
      · rw [if_neg q2, if_neg q2]
  · show F_X11_unnoticed_l40 0 v (nI (L0 ++ cl (unF (zI h 60) g k) (8 * nR (zI h 60))).length) (hdN (L0 ++ cl (unF (zI h 60) g k) (8 * nR (zI h 60)))) (nI g) (nI k) (nI (8 * nR (zI h 60))) h = _
    unfold F_X11_unnoticed_l40
    rw [gd_d (k0 s), r0_1 s, ob_s, gd_d (k3 s), c0, nl_8, nmul, Nat.mul_comm, if_pos (Int32.le_refl _)]
    rfl
theorem mem_app2 {L M : List Nat} {P : Nat → Prop} (h1 : ∀ x, x ∈ L → P x) (h2 : ∀ x, x ∈ M → P x) : ∀ x, x ∈ L ++ M → P x := fun x hx => by
  rw [List.mem_append] at hx
  rcases hx with hx | hx
  · exact h1 x hx
  · exact h2 x hx
theorem u1_lt {f : Nat → Int32} (i : Inv f) {g : Nat} (hg : g < 5) {n : Nat} (hn : n ≤ nG f - (g + 1)) : ∀ x, x ∈ cl (fun d => u2 f g (g + 1 + d)) n → x < 4096 := by
  have g5 := iG5 i
  refine cl_mem (fun d hd x hx => ?_)
  rw [← un_eq i] at hx
  exact u2_lt i hg (by omega) x hx
theorem x_unn25 (s : Sh h) (i : Inv (zI h 60)) (c : HR (zI h) 3 (zI h 60)) {g : Nat} (hg : g < nG (zI h 60)) {L0 : List Nat} (hL : ∀ x, x ∈ L0 → x < 4096) (v : Int32) : iter (fun z : Int32 × Int32 × Int32 => F_X11_unnoticed_l25 0 v z.1 z.2.1 (nI g) z.2.2 h) FU (nI L0.length, hdN L0, nI g + 1) = some (stL (L0 ++ u1 (zI h 60) g)) := by
  have g5 := iG5 i
  have c1 : zI h 3 5 = nI (nG (zI h 60)) := c.1.2.1.trans (iG i)
  refine iter_at (fun j => (nI (L0 ++ cl (fun d => u2 (zI h 60) g (g + 1 + d)) j).length, hdN (L0 ++ cl (fun d => u2 (zI h 60) g (g + 1 + d)) j), nI (g + 1 + j))) (nG (zI h 60) - (g + 1)) _ ?_ (fun j hj => ?_) ?_ (FU_lt (by omega))
  · show _ = (nI (L0 ++ []).length, hdN (L0 ++ []), nI (g + 1))
    rw [List.append_nil, nI_1]
  · show F_X11_unnoticed_l25 0 v (nI (L0 ++ cl (fun d => u2 (zI h 60) g (g + 1 + d)) j).length) (hdN (L0 ++ cl (fun d => u2 (zI h 60) g (g + 1 + d)) j)) (nI g) (nI (g + 1 + j)) h = _
    unfold F_X11_unnoticed_l25
    rw [gd_d (k0 s), r0_1 s, ob_s, gd_d (k3 s), c1, if_neg (nI_ge (by omega) (by omega)), x_unn40 s i c hg (k := g + 1 + j) (by omega) (mem_app2 hL (u1_lt i (by omega) (by omega))), ob_s, nI_1, cl_s, ← List.append_assoc]
    rfl
  · show F_X11_unnoticed_l25 0 v (nI (L0 ++ u1 (zI h 60) g).length) (hdN (L0 ++ u1 (zI h 60) g)) (nI g) (nI (g + 1 + (nG (zI h 60) - (g + 1)))) h = _
    unfold F_X11_unnoticed_l25
    rw [gd_d (k0 s), r0_1 s, ob_s, gd_d (k3 s), c1, if_pos (nI_le (by omega) (by omega))]
    rfl
theorem u0_lt {f : Nat → Int32} (i : Inv f) {n : Nat} (hn : n ≤ nG f) : ∀ x, x ∈ cl (u1 f) n → x < 4096 := by
  have g5 := iG5 i
  exact cl_mem (fun g hg x hx => u1_lt i (by omega) (Nat.le_refl _) x hx)
theorem x_unnoticed (s : Sh h) (i : Inv (zI h 60)) (c : HR (zI h) 3 (zI h 60)) (y : Bool) : F_X11_unnoticed 0 (b2 y) h = some (if y then hdN (u0 (zI h 60)) else nI (u0 (zI h 60)).length) := by
  have g5 := iG5 i
  have c1 : zI h 3 5 = nI (nG (zI h 60)) := c.1.2.1.trans (iG i)
  unfold F_X11_unnoticed F_X11_unnoticed_b0 F_X11_unnoticed_b127
  refine (ob_p (iter_at (fun j => (nI (cl (u1 (zI h 60)) j).length, hdN (cl (u1 (zI h 60)) j), nI j)) (nG (zI h 60)) (stL (u0 (zI h 60))) rfl (fun j hj => ?_) ?_ (FU_lt (by omega))) _).trans ?_
  · show F_X11_unnoticed_l7 0 (b2 y) (nI (cl (u1 (zI h 60)) j).length) (hdN (cl (u1 (zI h 60)) j)) (nI j) h = _
    unfold F_X11_unnoticed_l7
    rw [gd_d (k0 s), r0_1 s, ob_s, gd_d (k3 s), c1, if_neg (nI_ge (by omega) (by omega)), x_unn25 s i c hj (u0_lt i (by omega)), ob_s, nI_1]
    rfl
  · show F_X11_unnoticed_l7 0 (b2 y) (nI (u0 (zI h 60)).length) (hdN (u0 (zI h 60))) (nI (nG (zI h 60))) h = _
    unfold F_X11_unnoticed_l7
    rw [gd_d (k0 s), r0_1 s, ob_s, gd_d (k3 s), c1, if_pos (Int32.le_refl _)]
    rfl
  · cases y <;> rfl
-- the reference, counting
theorem len_app (n : Nat) (L M : List Nat) : n + L.length + M.length = n + (L ++ M).length := by rw [List.length_append]; omega
theorem m_c46 (s : Sh h) (i : Inv (zI h 60)) {g k r : Nat} (hg : g < nG (zI h 60)) (hk : k < nG (zI h 60)) (hr : r < nR (zI h 60)) (n0 : Nat) : iter (fun z : Int32 × Int32 => F_X12_unnoticed_l46 59 0 z.1 (nI g) (nI k) (nI r) z.2 h) FU (nI n0, 0) = some (.inl (nI (n0 + (u3 (zI h 60) g k r).length))) := by
  have r8 := iR8 i
  refine iter_at (fun j => (nI (n0 + (cl (u4 (zI h 60) g k r) j).length), nI j)) (nR (zI h 60)) _ rfl (fun j hj => ?_) ?_ (FU_lt (by omega))
  · show F_X12_unnoticed_l46 59 0 (nI (n0 + (cl (u4 (zI h 60) g k r) j).length)) (nI g) (nI k) (nI r) (nI j) h = _
    unfold F_X12_unnoticed_l46 F_X12_unnoticed_b100
    rw [m_rooms s, ob_s, gd_d (k59 s), iR i, if_neg (nI_ge hj (by omega)), m_unn s i hg hk (by omega) (by omega), ob_s, nI_1, nI_1, cl_s, ← len_app]
    have eF : u4 (zI h 60) g k r j = if unS (zI h 60) g k r j then [512 * g + 64 * k + 8 * r + j] else [] := rfl
    rw [eF]
    cases q : unS (zI h 60) g k r j with
    | false => rw [b2_f, if_pos rfl, if_neg (by decide)]; rfl
    | true => rw [b2_t, if_neg (by decide), if_pos rfl, if_pos rfl]; rfl
  · show F_X12_unnoticed_l46 59 0 (nI (n0 + (u3 (zI h 60) g k r).length)) (nI g) (nI k) (nI r) (nI (nR (zI h 60))) h = _
    unfold F_X12_unnoticed_l46
    rw [m_rooms s, ob_s, gd_d (k59 s), iR i, if_pos (Int32.le_refl _)]
theorem m_c34 (s : Sh h) (i : Inv (zI h 60)) {g k : Nat} (hg : g < nG (zI h 60)) (hk : k < nG (zI h 60)) (n0 : Nat) : iter (fun z : Int32 × Int32 => F_X12_unnoticed_l34 59 0 z.1 (nI g) (nI k) z.2 h) FU (nI n0, 0) = some (.inl (nI (n0 + (u2 (zI h 60) g k).length))) := by
  have r8 := iR8 i
  refine iter_at (fun j => (nI (n0 + (cl (u3 (zI h 60) g k) j).length), nI j)) (nR (zI h 60)) _ rfl (fun j hj => ?_) ?_ (FU_lt (by omega))
  · show F_X12_unnoticed_l34 59 0 (nI (n0 + (cl (u3 (zI h 60) g k) j).length)) (nI g) (nI k) (nI j) h = _
    unfold F_X12_unnoticed_l34
    rw [m_rooms s, ob_s, gd_d (k59 s), iR i, if_neg (nI_ge hj (by omega)), m_c46 s i hg hk hj, ob_s, sm_l, nI_1, cl_s, len_app]
  · show F_X12_unnoticed_l34 59 0 (nI (n0 + (u2 (zI h 60) g k).length)) (nI g) (nI k) (nI (nR (zI h 60))) h = _
    unfold F_X12_unnoticed_l34
    rw [m_rooms s, ob_s, gd_d (k59 s), iR i, if_pos (Int32.le_refl _)]
theorem m_c22 (s : Sh h) (i : Inv (zI h 60)) {g : Nat} (hg : g < nG (zI h 60)) (n0 : Nat) : iter (fun z : Int32 × Int32 => F_X12_unnoticed_l22 59 0 z.1 (nI g) z.2 h) FU (nI n0, nI g + 1) = some (.inl (nI (n0 + (u1 (zI h 60) g).length))) := by
  have g5 := iG5 i
  refine iter_at (fun j => (nI (n0 + (cl (fun d => u2 (zI h 60) g (g + 1 + d)) j).length), nI (g + 1 + j))) (nG (zI h 60) - (g + 1)) _ (by rw [nI_1]; rfl) (fun j hj => ?_) ?_ (FU_lt (by omega))
  · show F_X12_unnoticed_l22 59 0 (nI (n0 + (cl (fun d => u2 (zI h 60) g (g + 1 + d)) j).length)) (nI g) (nI (g + 1 + j)) h = _
    unfold F_X12_unnoticed_l22
    rw [m_guests s, ob_s, gd_d (k59 s), iG i, if_neg (nI_ge (by omega) (by omega)), m_c34 s i hg (k := g + 1 + j) (by omega), ob_s, sm_l, nI_1, cl_s, len_app]
    rfl
  · show F_X12_unnoticed_l22 59 0 (nI (n0 + (u1 (zI h 60) g).length)) (nI g) (nI (g + 1 + (nG (zI h 60) - (g + 1)))) h = _
    unfold F_X12_unnoticed_l22
    rw [m_guests s, ob_s, gd_d (k59 s), iG i, if_pos (nI_le (by omega) (by omega))]
theorem m_c9 (s : Sh h) (i : Inv (zI h 60)) : iter (fun z : Int32 × Int32 => F_X12_unnoticed_l9 59 0 z.1 z.2 h) FU (0, 0) = some (.inl (nI (u0 (zI h 60)).length)) := by
  have g5 := iG5 i
  refine iter_at (fun j => (nI (0 + (cl (u1 (zI h 60)) j).length), nI j)) (nG (zI h 60)) _ rfl (fun j hj => ?_) ?_ (FU_lt (by omega))
  · show F_X12_unnoticed_l9 59 0 (nI (0 + (cl (u1 (zI h 60)) j).length)) (nI j) h = _
    unfold F_X12_unnoticed_l9
    rw [m_guests s, ob_s, gd_d (k59 s), iG i, if_neg (nI_ge (by omega) (by omega)), m_c22 s i hj, ob_s, sm_l, nI_1, cl_s, len_app]
  · show F_X12_unnoticed_l9 59 0 (nI (0 + (u0 (zI h 60)).length)) (nI (nG (zI h 60))) h = _
    unfold F_X12_unnoticed_l9
    rw [m_guests s, ob_s, gd_d (k59 s), iG i, if_pos (Int32.le_refl _), Nat.zero_add]
-- the reference, looking for the first
theorem m_f46 (s : Sh h) (i : Inv (zI h 60)) {g k r : Nat} (hg : g < nG (zI h 60)) (hk : k < nG (zI h 60)) (hr : r < nR (zI h 60)) : (u3 (zI h 60) g k r = [] ∧ iter (fun z : Int32 × Int32 => F_X12_unnoticed_l46 59 1 z.1 (nI g) (nI k) (nI r) z.2 h) FU (0, 0) = some (.inl 0)) ∨ (∃ c t x, u3 (zI h 60) g k r = c :: t ∧ iter (fun z : Int32 × Int32 => F_X12_unnoticed_l46 59 1 z.1 (nI g) (nI k) (nI r) z.2 h) FU (0, 0) = some x ∧ ∃ a, x = .inr (nI a) ∧ c = 512 * g + 64 * k + 8 * r + a) := by
  have r8 := iR8 i
  refine iter_sc0 (fun j => ((0 : Int32), nI j)) (u4 (zI h 60) g k r) (Sum.inl 0) _ (nR (zI h 60)) rfl (fun j hj => ?_) ?_ (FU_lt (by omega))
  · have e : F_X12_unnoticed_l46 59 1 0 (nI g) (nI k) (nI r) (nI j) h = if unS (zI h 60) g k r j then some (.inr (.inr (nI j))) else some (.inl (0, nI (j + 1))) := by
      unfold F_X12_unnoticed_l46 F_X12_unnoticed_b100
      rw [m_rooms s, ob_s, gd_d (k59 s), iR i, if_neg (nI_ge hj (by omega)), m_unn s i hg hk (by omega) (by omega), ob_s, nI_1]
      cases unS (zI h 60) g k r j <;> rfl
    unfold u4
    cases q : unS (zI h 60) g k r j with
    | false => exact Or.inl ⟨rfl, by rw [q] at e; exact e⟩
    | true => exact Or.inr ⟨_, [], .inr (nI j), rfl, by rw [q] at e; exact e, j, rfl, rfl⟩
  · show F_X12_unnoticed_l46 59 1 0 (nI g) (nI k) (nI r) (nI (nR (zI h 60))) h = _
    unfold F_X12_unnoticed_l46
    rw [m_rooms s, ob_s, gd_d (k59 s), iR i, if_pos (Int32.le_refl _)]
theorem m_f34 (s : Sh h) (i : Inv (zI h 60)) {g k : Nat} (hg : g < nG (zI h 60)) (hk : k < nG (zI h 60)) : (u2 (zI h 60) g k = [] ∧ iter (fun z : Int32 × Int32 => F_X12_unnoticed_l34 59 1 z.1 (nI g) (nI k) z.2 h) FU (0, 0) = some (.inl 0)) ∨ (∃ c t x, u2 (zI h 60) g k = c :: t ∧ iter (fun z : Int32 × Int32 => F_X12_unnoticed_l34 59 1 z.1 (nI g) (nI k) z.2 h) FU (0, 0) = some x ∧ ∃ r a, x = .inr (nI r, nI a) ∧ c = 512 * g + 64 * k + 8 * r + a) := by
  have r8 := iR8 i
  refine iter_sc0 (fun j => ((0 : Int32), nI j)) (u3 (zI h 60) g k) (Sum.inl 0) _ (nR (zI h 60)) rfl (fun j hj => ?_) ?_ (FU_lt (by omega))
  · rcases m_f46 s i hg hk hj with ⟨q1, q2⟩ | ⟨c, t, x, q1, q2, a, q3, q4⟩
    · refine Or.inl ⟨q1, ?_⟩
      show F_X12_unnoticed_l34 59 1 0 (nI g) (nI k) (nI j) h = _
      unfold F_X12_unnoticed_l34
      rw [m_rooms s, ob_s, gd_d (k59 s), iR i, if_neg (nI_ge hj (by omega)), q2, ob_s, sm_l, nI_1]
    · refine Or.inr ⟨c, t, .inr (nI j, nI a), q1, ?_, j, a, rfl, q4⟩
      show F_X12_unnoticed_l34 59 1 0 (nI g) (nI k) (nI j) h = _
      unfold F_X12_unnoticed_l34
      rw [m_rooms s, ob_s, gd_d (k59 s), iR i, if_neg (nI_ge hj (by omega)), q2, ob_s, q3, sm_r]
  · show F_X12_unnoticed_l34 59 1 0 (nI g) (nI k) (nI (nR (zI h 60))) h = _
    unfold F_X12_unnoticed_l34
    rw [m_rooms s, ob_s, gd_d (k59 s), iR i, if_pos (Int32.le_refl _)]
theorem m_f22 (s : Sh h) (i : Inv (zI h 60)) {g : Nat} (hg : g < nG (zI h 60)) : (u1 (zI h 60) g = [] ∧ iter (fun z : Int32 × Int32 => F_X12_unnoticed_l22 59 1 z.1 (nI g) z.2 h) FU (0, nI g + 1) = some (.inl 0)) ∨ (∃ c t x, u1 (zI h 60) g = c :: t ∧ iter (fun z : Int32 × Int32 => F_X12_unnoticed_l22 59 1 z.1 (nI g) z.2 h) FU (0, nI g + 1) = some x ∧ ∃ k r a, x = .inr (nI k, nI r, nI a) ∧ c = 512 * g + 64 * k + 8 * r + a) := by
  have g5 := iG5 i
  refine iter_sc0 (fun j => ((0 : Int32), nI (g + 1 + j))) (fun d => u2 (zI h 60) g (g + 1 + d)) (Sum.inl 0) _ (nG (zI h 60) - (g + 1)) (by rw [nI_1]) (fun j hj => ?_) ?_ (FU_lt (by omega))
  · rcases m_f34 s i hg (k := g + 1 + j) (by omega) with ⟨q1, q2⟩ | ⟨c, t, x, q1, q2, r, a, q3, q4⟩
    · refine Or.inl ⟨q1, ?_⟩
      show F_X12_unnoticed_l22 59 1 0 (nI g) (nI (g + 1 + j)) h = _
      unfold F_X12_unnoticed_l22
      rw [m_guests s, ob_s, gd_d (k59 s), iG i, if_neg (nI_ge (by omega) (by omega)), q2, ob_s, sm_l, nI_1]
      rfl
    · refine Or.inr ⟨c, t, .inr (nI (g + 1 + j), nI r, nI a), q1, ?_, g + 1 + j, r, a, rfl, q4⟩
      show F_X12_unnoticed_l22 59 1 0 (nI g) (nI (g + 1 + j)) h = _
      unfold F_X12_unnoticed_l22
      rw [m_guests s, ob_s, gd_d (k59 s), iG i, if_neg (nI_ge (by omega) (by omega)), q2, ob_s, q3, sm_r]
      rfl
  · show F_X12_unnoticed_l22 59 1 0 (nI g) (nI (g + 1 + (nG (zI h 60) - (g + 1)))) h = _
    unfold F_X12_unnoticed_l22
    rw [m_guests s, ob_s, gd_d (k59 s), iG i, if_pos (nI_le (by omega) (by omega))]
theorem m_f9 (s : Sh h) (i : Inv (zI h 60)) : (u0 (zI h 60) = [] ∧ iter (fun z : Int32 × Int32 => F_X12_unnoticed_l9 59 1 z.1 z.2 h) FU (0, 0) = some (.inl 0)) ∨ (∃ c t x, u0 (zI h 60) = c :: t ∧ iter (fun z : Int32 × Int32 => F_X12_unnoticed_l9 59 1 z.1 z.2 h) FU (0, 0) = some x ∧ ∃ g k r a, x = .inr (nI g, nI k, nI r, nI a) ∧ c = 512 * g + 64 * k + 8 * r + a) := by
  have g5 := iG5 i
  refine iter_sc0 (fun j => ((0 : Int32), nI j)) (u1 (zI h 60)) (Sum.inl 0) _ (nG (zI h 60)) rfl (fun j hj => ?_) ?_ (FU_lt (by omega))
  · rcases m_f22 s i hj with ⟨q1, q2⟩ | ⟨c, t, x, q1, q2, k, r, a, q3, q4⟩
    · refine Or.inl ⟨q1, ?_⟩
      show F_X12_unnoticed_l9 59 1 0 (nI j) h = _
      unfold F_X12_unnoticed_l9
      rw [m_guests s, ob_s, gd_d (k59 s), iG i, if_neg (nI_ge hj (by omega)), q2, ob_s, sm_l, nI_1]
    · refine Or.inr ⟨c, t, .inr (nI j, nI k, nI r, nI a), q1, ?_, j, k, r, a, rfl, q4⟩
      show F_X12_unnoticed_l9 59 1 0 (nI j) h = _
      unfold F_X12_unnoticed_l9
      rw [m_guests s, ob_s, gd_d (k59 s), iG i, if_neg (nI_ge hj (by omega)), q2, ob_s, q3, sm_r]
      rfl
  · show F_X12_unnoticed_l9 59 1 0 (nI (nG (zI h 60))) h = _
    unfold F_X12_unnoticed_l9
    rw [m_guests s, ob_s, gd_d (k59 s), iG i, if_pos (Int32.le_refl _)]
theorem j_unnoticed (g : GS h) (y : Bool) : JR h (F_X11_unnoticed 0 (b2 y)) (F_X12_unnoticed 59 (b2 y)) := by
  obtain ⟨s, i, c, -⟩ := id g
  refine JR_m g (x_unnoticed s i c y) (J := zI (t0 h)) ?_ t0_m
  unfold F_X12_unnoticed F_X12_unnoticed_b0 F_X12_unnoticed_b133
  rw [gd_d (k59 s), t0_d]
  cases y with
  | false =>
    have e := m_c9 (t0_s s) (t0_i i)
    rw [t0_60] at e
    refine (ob_p e _).trans ?_
    rw [sm_l, if_pos b2_f]
    rfl
  | true =>
    have e := m_f9 (t0_s s) (t0_i i)
    rw [t0_60] at e
    rcases e with ⟨q1, q2⟩ | ⟨c, t, x, q1, q2, a, k, r, d, q3, q4⟩
    · refine (ob_p q2 _).trans ?_
      rw [sm_l, if_neg (by decide), q1]
      rfl
    · refine (ob_p q2 _).trans ?_
      rw [q3, sm_r, q1, q4]
      show some (512 * nI a + 64 * nI k + 8 * nI r + nI d, t0 h) = some (nI (512 * a + 64 * k + 8 * r + d), _)
      rw [nl_512, nl_64, nl_8, nmul, nmul, nmul, nadd, nadd, nadd]
      rfl
end UNN2
