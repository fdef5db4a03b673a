/-! CALLS: read, weigh, weighed -/
section CALLS4
variable {h : Hp}
theorem up2_va (I : Nat → Nat → Int32) (a : Nat) (F : Nat → Int32) (k : Nat) (v : Int32) : up2 (va_up I a F) a k v = va_up I a (va_up F k v) := by
  funext p
  by_cases hp : p = a
  · subst hp
    show va_up (va_up I p F) p (va_up (va_up I p F p) k v) p = _
    rw [va_e, va_e, va_e]
  · rw [up2_a _ _ _ _ _ hp, va_n _ _ _ _ hp, va_n _ _ _ _ hp]
theorem up2_v1 (I : Nat → Nat → Int32) (a k : Nat) (v : Int32) : up2 I a k v a = va_up (I a) k v := by
  show va_up I a (va_up (I a) k v) a = _
  rw [va_e]
def rdJ1 (I : Nat → Nat → Int32) (d : Nat) (x y : Int32) : Nat → Nat → Int32 := up2 (up2 (up2 I 19 d x) 20 d y) 3 17 (nI (d + 1))
def rdJ2 (I : Nat → Nat → Int32) (d : Nat) (x y : Int32) : Nat → Nat → Int32 := up2 (up2 (up2 (up2 (rdJ1 I d x y) 59 0 0) 60 (131 + 2 * d) x) 60 (132 + 2 * d) y) 60 5 (nI (d + 1))
theorem rd_60 (I : Nat → Nat → Int32) (d : Nat) (x y : Int32) : rdJ2 I d x y 60 = va_up (va_up (va_up (I 60) (131 + 2 * d) x) (132 + 2 * d) y) 5 (nI (d + 1)) := by
  unfold rdJ2 rdJ1
  rw [up2_v1, up2_v1, up2_v1, up2_a _ _ _ _ _ (by decide), up2_a _ _ _ _ _ (by decide), up2_a _ _ _ _ _ (by decide), up2_a _ _ _ _ _ (by decide)]
theorem rd_o (I : Nat → Nat → Int32) (d : Nat) (x y : Int32) {a : Nat} (h1 : a ≠ 3) (h2 : a ≠ 19) (h3 : a ≠ 20) (h4 : a ≠ 59) (h5 : a ≠ 60) : rdJ2 I d x y a = I a := by
  unfold rdJ2 rdJ1
  rw [up2_a _ _ _ _ _ h5, up2_a _ _ _ _ _ h5, up2_a _ _ _ _ _ h5, up2_a _ _ _ _ _ h4, up2_a _ _ _ _ _ h1, up2_a _ _ _ _ _ h3, up2_a _ _ _ _ _ h2]
theorem rd_59 (I : Nat → Nat → Int32) (d : Nat) (x y : Int32) (k : Nat) : rdJ2 I d x y 59 k = if k = 0 then 0 else I 59 k := by
  unfold rdJ2 rdJ1
  rw [up2_a _ _ _ _ _ (by decide), up2_a _ _ _ _ _ (by decide), up2_a _ _ _ _ _ (by decide)]
  by_cases hk : k = 0
  · subst hk
    rw [up2_e, if_pos rfl]
  · rw [up2_k _ _ _ _ _ hk, if_neg hk, up2_a _ _ _ _ _ (by decide), up2_a _ _ _ _ _ (by decide), up2_a _ _ _ _ _ (by decide)]
theorem rd_3 (I : Nat → Nat → Int32) (d : Nat) (x y : Int32) (k : Nat) : rdJ2 I d x y 3 k = if k = 17 then nI (d + 1) else I 3 k := by
  unfold rdJ2 rdJ1
  rw [up2_a _ _ _ _ _ (by decide), up2_a _ _ _ _ _ (by decide), up2_a _ _ _ _ _ (by decide), up2_a _ _ _ _ _ (by decide)]
  by_cases hk : k = 17
  · subst hk
    rw [up2_e, if_pos rfl]
  · rw [up2_k _ _ _ _ _ hk, if_neg hk, up2_a _ _ _ _ _ (by decide), up2_a _ _ _ _ _ (by decide)]
theorem rd_19 (I : Nat → Nat → Int32) (d : Nat) (x y : Int32) (k : Nat) : rdJ2 I d x y 19 k = if k = d then x else I 19 k := by
  unfold rdJ2 rdJ1
  rw [up2_a _ _ _ _ _ (by decide), up2_a _ _ _ _ _ (by decide), up2_a _ _ _ _ _ (by decide), up2_a _ _ _ _ _ (by decide), up2_a _ _ _ _ _ (by decide), up2_a _ _ _ _ _ (by decide)]
  by_cases hk : k = d
  · subst hk
    rw [up2_e, if_pos rfl]
  · rw [up2_k _ _ _ _ _ hk, if_neg hk]
theorem rd_20 (I : Nat → Nat → Int32) (d : Nat) (x y : Int32) (k : Nat) : rdJ2 I d x y 20 k = if k = d then y else I 20 k := by
  unfold rdJ2 rdJ1
  rw [up2_a _ _ _ _ _ (by decide), up2_a _ _ _ _ _ (by decide), up2_a _ _ _ _ _ (by decide), up2_a _ _ _ _ _ (by decide), up2_a _ _ _ _ _ (by decide)]
  by_cases hk : k = d
  · subst hk
    rw [up2_e, if_pos rfl]
  · rw [up2_k _ _ _ _ _ hk, if_neg hk, up2_a _ _ _ _ _ (by decide)]
theorem rd_gs (g : GS h) (x y : Int32) (hd : nD (zI h 60) < 8) : GS (wI h (rdJ2 (zI h) (nD (zI h 60)) x y)) := by
  obtain ⟨s, i, c, -⟩ := id g
  have r8 := iR8 i
  have g5 := iG5 i
  have t6 := iT6 i
  have b20 := iB20 i
  have lo : ∀ k, k < 131 → k ≠ 5 → rdJ2 (zI h) (nD (zI h 60)) x y 60 k = zI h 60 k := fun k h1 h2 => by
    rw [rd_60, va_n _ _ _ _ h2, va_n _ _ _ _ (by omega), va_n _ _ _ _ (by omega)]
  have at5 : rdJ2 (zI h) (nD (zI h 60)) x y 60 5 = nI (nD (zI h 60) + 1) := by rw [rd_60, va_e]
  have n5 : nD (rdJ2 (zI h) (nD (zI h 60)) x y 60) = nD (zI h 60) + 1 := by
    show (rdJ2 (zI h) (nD (zI h 60)) x y 60 5).toNatClampNeg = _
    rw [at5, nI_clamp (by omega)]
  refine GS_many g ?_ ?_ (lo 1 (by omega) (by omega)) (lo 4 (by omega) (by omega)) (fun k h1 h2 => lo k h2 (by omega)) (fun k h1 h2 => ?_) ?_
  · refine Inv_mk2 i (fun k h1 h2 => lo k (by omega) h2) ⟨by rw [n5, at5], by rw [n5]; omega⟩ (fun r hr => ?_) (fun r hr => ?_) (fun r hr => ?_) (fun r hr => ?_)
    · rw [lo _ (by omega) (by omega), lo _ (by omega) (by omega), lo _ (by omega) (by omega), lo _ (by omega) (by omega)]
      exact irm i r hr
    · rw [lo _ (by omega) (by omega), lo _ (by omega) (by omega)]
      exact ig2 i r hr
    · rw [lo _ (by omega) (by omega), lo _ (by omega) (by omega), lo _ (by omega) (by omega)]
      exact it2 i r hr
    · rw [lo _ (by omega) (by omega), lo _ (by omega) (by omega), lo _ (by omega) (by omega)]
      exact ibk i r hr
  · intro a k w m
    have q := HR_mp c a k w m
    have hb := mp_bd m
    have m5 : Mp 0 17 5 := by unfold Mp; decide
    have hx := mp_fun m5 m
    by_cases w5 : w = 5
    · obtain ⟨rfl, rfl⟩ := hx.mpr w5
      subst w5
      rw [at5, rd_3, if_pos rfl]
    · have mx : Mp 16 (nD (zI h 60)) (131 + 2 * nD (zI h 60)) := mp_X (by omega) (by omega) hd (by omega)
      have my : Mp 17 (nD (zI h 60)) (132 + 2 * nD (zI h 60)) := mp_X (by omega) (by omega) hd (by omega)
      rw [rd_60, va_n _ _ _ _ w5]
      by_cases wy : w = 132 + 2 * nD (zI h 60)
      · obtain ⟨rfl, rfl⟩ := (mp_fun my m).mpr wy
        subst wy
        rw [va_e, rd_20, if_pos rfl]
      · rw [va_n _ _ _ _ wy]
        by_cases wx : w = 131 + 2 * nD (zI h 60)
        · obtain ⟨rfl, rfl⟩ := (mp_fun mx m).mpr wx
          subst wx
          rw [va_e, rd_19, if_pos rfl]
        · rw [va_n _ _ _ _ wx, ← q]
          by_cases a3 : a = 0
          · subst a3
            rw [rd_3, if_neg (fun e => w5 (hx.mp ⟨rfl, e⟩))]
          · by_cases a16 : a = 16
            · subst a16
              rw [rd_19, if_neg (fun e => wx ((mp_fun mx m).mp ⟨rfl, e⟩))]
            · by_cases a17 : a = 17
              · subst a17
                rw [rd_20, if_neg (fun e => wy ((mp_fun my m).mp ⟨rfl, e⟩))]
              · rw [rd_o _ _ _ _ (by omega) (by omega) (by omega) (by omega) (by omega)]
  · rw [rd_60, va_n _ _ _ _ (by omega), va_n _ _ _ _ (by omega), va_n _ _ _ _ (by omega)]
  · intro a k n1 n2 n3 n4
    by_cases a59 : a = 59
    · subst a59
      rw [rd_59, if_neg (by unfold mNo at n1; omega)]
    · rw [rd_o _ _ _ _ (by omega) (by omega) (by omega) a59 n4]
theorem x_read (s : Sh h) {d : Nat} (c5 : zI h 3 17 = nI d) (hd : d < 8) (x y : Int32) : F_X11_read 0 x y h = some (.inl (nI (d + 1)), wI h (rdJ1 (zI h) d x y), 0, 0) := by
  have z1 : zI (setI h 19 d x) 3 17 = nI d := (congrFun (su_n (by decide)) 17).trans c5
  have z2 : zI (setI (setI h 19 d x) 20 d y) 3 17 = nI d := (congrFun (su_n (by decide)) 17).trans z1
  have s1 : Sh (setI h 19 d x) := Sh_w s _
  have s2 : Sh (setI (setI h 19 d x) 20 d y) := Sh_w s _
  have s3 : Sh (setI (setI (setI h 19 d x) 20 d y) 3 17 (nI (d + 1))) := Sh_w s _
  unfold F_X11_read F_X11_read_b0
  rw [gd_d (k0 s), r0_1 s, ob_s, gd_d (k3 s), c5, nl_8, if_pos (nI_lt hd (by omega)), ob_s, gd_d (k3 s), r3_18 s, ob_s, ob_s, gd_d (k3 s), gd_d (k19 s), c5, l19 s, ix_t hd (by omega), gd_t, ncl (by omega)]
  rw [r0_1 s1, ob_s, gd_d (k3 s1), r3_19 s1, ob_s, ob_s, gd_d (k3 s1), gd_d (k20 s1), z1, l20 s1, ix_t hd (by omega), gd_t, ncl (by omega), ob_s]
  rw [r0_1 s2, ob_s, gd_d (k3 s2), z2, nI_1, r0_1 s3, ob_s, gd_d (k3 s3), su_e]
  rfl
theorem m_read (s : Sh h) {d : Nat} (e5 : zI h 60 5 = nI d) (hd : d < 8) (x y : Int32) : F_X12_read 59 x y h = some (nI (d + 1), setI (setI (setI (t0 h) 60 (131 + 2 * d) x) 60 (132 + 2 * d) y) 60 5 (nI (d + 1))) := by
  have e7 : zI (t0 h) 60 5 = nI d := (congrFun t0_60 5).trans e5
  have n8 : (nI d = nI 8) = False := neq_f (by omega) (by omega) (by omega)
  have w1 : zI (setI (setI (t0 h) 60 (131 + 2 * d) x) 60 (131 + 2 * d + 1) y) 60 5 = nI d := (su_k (by omega)).trans ((su_k (by omega)).trans e7)
  simp (disch := omega) only [F_X12_read, F_X12_read_b0, F_X12_read_b22, t0_d, kd_setI, zR_setI, zl_setI, t0_k, t0_l, t0_r, k59 s, r59_1 s, k60 s, l60 s, nl_8, nl_5, nl_131, nl_2, nl_1, e7, n8, m_thr0 (t0_s s), nmul, nadd, ix_t, ncl, w1, su_e, gd_t, ob_s, ob2_s, ob4_s, sm_l, sm_r, ac_s, decide_true, decide_false, eq_self, ne_eq, not_false_eq_true, not_true_eq_false, if_true, if_false, ite_true, ite_false, reduceIte, or_true, true_or, or_false, false_or, and_true, true_and, Bool.false_eq_true, reduceCtorEq]
  rw [show 131 + 2 * d + 1 = 132 + 2 * d by omega]
theorem m_read8 (s : Sh h) (e5 : zI h 60 5 = nI 8) (x y : Int32) : F_X12_read 59 x y h = some (0, tk h 1) := by
  simp (disch := omega) only [F_X12_read, F_X12_read_b0, F_X12_read_b22, nl_8, nl_5, e5, ix_t, ncl, m_thr1 (t0_s s), k59 s, r59_1 s, k60 s, l60 s, k0 s, r0_1 s, k3 s, r3_1 s, r3_2 s, r3_3 s, r3_4 s, r3_6 s, r3_7 s, r3_8 s, r3_9 s, r3_16 s, k4 s, k5 s, k6 s, k7 s, k8 s, k9 s, l4 s, l5 s, l6 s, l7 s, l8 s, l9 s, k11 s, r11_1 s, r11_2 s, r11_3 s, k12 s, k13 s, k14 s, l12 s, l13 s, l14 s, k15 s, r0_0 s, k1 s, t0_d, tk_d, t0_k, t0_l, t0_r, t0_60, tk_k, tk_l, tk_r, tk_60, hS_k, hS_l, hS_r, hS_60, one0, b2_t, b2_f, Bool.not_true, Bool.not_false, Bool.false_eq_true, gd_t, ob_s, ob2_s, ob4_s, sm_l, sm_r, ac_s, decide_true, decide_false, eq_self, ne_eq, not_false_eq_true, not_true_eq_false, if_true, if_false, ite_true, ite_false, reduceIte, or_true, true_or, or_false, false_or, and_true, true_and, Bool.false_eq_true, reduceCtorEq]
theorem j_read (g : GS h) (x y : Int32) : JB h (F_L_read 0 x y 72) (F_X12_read 59 x y) := by
  obtain ⟨s, i, c, -⟩ := id g
  have d8 := iD8 i
  have c5 : zI h 3 17 = nI (nD (zI h 60)) := c.1.2.2.2.2.2.1.trans (iD i)
  by_cases hd : nD (zI h 60) < 8
  · have e := x_read s c5 hd x y
    refine JB_w g (r := nI (nD (zI h 60) + 1)) (J1 := rdJ1 (zI h) (nD (zI h 60)) x y) (J2 := rdJ2 (zI h) (nD (zI h 60)) x y) ?_ ?_ ?_ (rd_gs g x y hd)
    · unfold F_L_read; rw [gd_d (k0 s), e, ob4_s]; exact put_out (Sh_w s _) _
    · have s' : Sh (setL (wI h (rdJ1 (zI h) (nD (zI h 60)) x y)) 72 0 (nI (nD (zI h 60) + 1)).toInt64) := s
      have e60 : zI (setL (wI h (rdJ1 (zI h) (nD (zI h 60)) x y)) 72 0 (nI (nD (zI h 60) + 1)).toInt64) 60 = zI h 60 := by
        show rdJ1 (zI h) (nD (zI h 60)) x y 60 = _
        unfold rdJ1
        rw [up2_a _ _ _ _ _ (by decide), up2_a _ _ _ _ _ (by decide), up2_a _ _ _ _ _ (by decide)]
      rw [m_read s' (d := nD (zI h 60)) (by rw [e60]; exact iD i) hd x y]
      rfl
    · rw [rd_59, if_pos rfl]
  · have hd8 : nD (zI h 60) = 8 := by omega
    have e : F_X11_read 0 x y h = some (.inr 1, h, 1, 6) := by
      simp (disch := omega) only [F_X11_read, F_X11_read_b0, c5, nl_8, nlt_f, k59 s, r59_1 s, k60 s, l60 s, k0 s, r0_1 s, k3 s, r3_1 s, r3_2 s, r3_3 s, r3_4 s, r3_6 s, r3_7 s, r3_8 s, r3_9 s, r3_16 s, k4 s, k5 s, k6 s, k7 s, k8 s, k9 s, l4 s, l5 s, l6 s, l7 s, l8 s, l9 s, k11 s, r11_1 s, r11_2 s, r11_3 s, k12 s, k13 s, k14 s, l12 s, l13 s, l14 s, k15 s, r0_0 s, k1 s, gd_t, ob_s, ob2_s, ob4_s, sm_l, sm_r, ac_s, decide_true, decide_false, eq_self, ne_eq, not_false_eq_true, not_true_eq_false, if_true, if_false, ite_true, ite_false, reduceIte, or_true, true_or, or_false, false_or, and_true, true_and, Bool.false_eq_true, reduceCtorEq]
    refine JB_t g (k := 1) (by decide) ?_ ⟨0, zI (tk h 1), ?_, tk_m, tk_z⟩
    · unfold F_L_read; rw [gd_d (k0 s), e, ob4_s]; rfl
    · exact m_read8 s ((iD i).trans (by rw [hd8])) x y
end CALLS4
