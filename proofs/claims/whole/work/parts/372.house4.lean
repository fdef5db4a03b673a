/-! A HOUSE IS MADE: the whole of it -/
section MAKE4
variable {h : Hp}
theorem ltK {g : Hp} {K a m : Nat} (e : zN g = K + m) (q : a < m) : K + a < zN g := by rw [e]; omega
theorem ltK0 {g : Hp} {K m : Nat} (e : zN g = K + m) (q : 0 < m) : K < zN g := by rw [e]; omega
theorem ltb {g : Hp} {K b m : Nat} (e : zN g = K + m) (q : b < K) : b < zN g := by rw [e]; omega
theorem neK {K a c : Nat} (q : a ≠ c) : K + a ≠ K + c := by omega
theorem ne0K {K c : Nat} (q : c ≠ 0) : K ≠ K + c := by omega
theorem nQ {K a : Nat} (q : a ≠ 0) (r : a ≠ 7) : ¬ (K + a = K ∨ K + a = K + 7) := by omega
theorem nQb {K b : Nat} (q : b < K) : ¬ (b = K ∨ b = K + 7) := by omega
theorem eqN {g : Hp} {K m : Nat} (e : zN g = K + m) : K + m = zN g := e.symm
theorem fR_P {h h2 : Hp} {a m : Nat} (x : fR h h2 a m) (P : Nat → Prop) (p : P a) : fP h h2 P := fP_of x (fun _ => p)
theorem fR_N {h h2 : Hp} {a m : Nat} (x : fR h h2 a m) : zN h2 = zN h + m := x.1
theorem fP_new {g g2 : Hp} {k n m : Nat} {P : Nat → Prop} (x : fR (alloc g k n) g2 (zN g) m) : fP g g2 P := by
  obtain ⟨x1, x2, x3⟩ := x
  rw [zN_al] at x1 x2 x3
  refine ⟨by omega, fun b hb => ?_, fun b hb _ => ?_⟩
  · have := x2 b (by omega)
    rw [kd_al, zl_al, if_neg (by omega), if_neg (by omega)] at this
    exact this
  · have p := x3 b (by omega) (by omega)
    refine ⟨p.1.trans ?_, p.2.trans ?_⟩
    · funext j
      rw [zR_al, if_neg (by omega)]
    · rw [zI_al, if_neg (by omega)]
theorem hC_f {K q : Nat} : fR h (hC h K q) K 0 := by
  unfold hC
  exact fR_t (fR_t (fR_t (fR_t (fR_t (fR_t (fR_sR h K 9 _) (fR_sI _ K 10 0)) (fR_sI _ K 11 0)) (fR_sI _ K 12 1000)) (fR_sI _ K 13 2000)) (fR_sI _ K 14 0)) (fR_sI _ K 15 1)
theorem hC_r {K q j : Nat} : zR (hC h K q) K j = if j = 9 then some q else zR h K j := by
  unfold hC
  simp only [zR_setI, zR_setR, if_true]
theorem hD_f {K q : Nat} : fR h (hD h K q) K 2 := by
  unfold hD
  exact fR_t (fR_t (fR_t (fR_sR h K 16 _) (fR_sI _ K 17 0)) (arr_f _ K 18 13 8)) (arr_f _ K 19 13 8)
theorem hD_r {K q j : Nat} (hK : K < zN h) : zR (hD h K q) K j = if j = 19 then some (zN h + 1) else if j = 18 then some (zN h) else if j = 16 then some q else zR h K j := by
  have a1 : K < zN (setI (setR h K 16 (some q)) K 17 0) := hK
  have a2 : K < zN (arr (setI (setR h K 16 (some q)) K 17 0) K 18 13 8) := by show K < zN h + 1; omega
  unfold hD
  rw [arr_r a2, arr_r a1, zR_setI, zR_setR, if_pos rfl]
  rfl
theorem hD_k {K q : Nat} (hK : K < zN h) : (kd (hD h K q) (zN h) = 13 ∧ zl (hD h K q) (zN h) = 8) ∧ (kd (hD h K q) (zN h + 1) = 13 ∧ zl (hD h K q) (zN h + 1) = 8) := by
  have k1 := arr_k (h := setI (setR h K 16 (some q)) K 17 0) (K := K) hK 18 13 8
  have k2 := arr_k (h := arr (setI (setR h K 16 (some q)) K 17 0) K 18 13 8) (K := K) (by show K < zN h + 1; omega) 19 13 8
  exact ⟨fR_k (arr_f _ K 19 13 8) (by show zN h < zN h + 1; omega) k1, k2⟩
set_option maxHeartbeats 4000000 in
theorem x_house (h : Hp) : ∃ h2, F_X2_init (zN h) (alloc h 2 0) = some ((), h2, 32, 2329) ∧ HS h2 (zN h) ∧ zN h2 = zN h + 33 ∧ ∀ b, b < zN h → kd h2 b = kd h b ∧ zl h2 b = zl h b ∧ zR h2 b = zR h b ∧ zI h2 b = zI h b := by
  generalize hK : zN h = K
  have N1 : zN (alloc h 2 0) = K + 1 := by rw [zN_al, hK]
  have kK : kd (alloc h 2 0) K = 2 := by rw [kd_al, if_pos hK.symm]
  have NA := hA_N (h := alloc h 2 0) N1
  have fA := hA_f (h := alloc h 2 0) (K := K)
  obtain ⟨rA1, rA2, rA3, rA4, rA6, rA7, rA8⟩ := hA_r (h := alloc h 2 0) N1
  obtain ⟨c1, c2, c3, c4, c5, c6, c7⟩ := hA_k (h := alloc h 2 0) N1
  have kKA : kd (hA (alloc h 2 0) K) K = 2 := (fA.2.1 K (ltK0 N1 (by decide))).1.trans kK
  rw [init_eq, gd_d kK]
  generalize hA (alloc h 2 0) K = gA at *
  have Na : zN (alloc gA 7 0) = K + 9 := by rw [zN_al, NA]
  obtain ⟨gB, eB, fB, ⟨rB1, rB2, rB3⟩, kB1, kB2, kB3⟩ := x_init8 (h := alloc gA 7 0) (a := K + 8) (ltK Na (by decide)) (by rw [kd_al, if_pos (eqN NA)])
  rw [Na] at rB1 rB2 rB3 kB1 kB2 kB3
  have NB : zN gB = K + 12 := by rw [fB.1, Na]
  have kB8 : kd gB (K + 8) = 7 := (fB.2.1 (K + 8) (ltK Na (by decide))).1.trans (by rw [kd_al, if_pos (eqN NA)])
  have fAB : fP gA gB (fun b => b = K ∨ b = K + 7) := fP_new (by rw [NA]; exact fB)
  have kKB : kd gB K = 2 := (fAB.2.1 K (ltK0 NA (by decide))).1.trans kKA
  have rKB : zR gB K = zR gA K := (fB.2.2 K (ltK0 Na (by decide)) (ne0K (by decide))).1.trans (by funext j; rw [zR_al, if_neg (by rw [NA]; exact ne0K (by decide))])
  rw [NA, eB, ob4_s, gd_d kKB]
  have fBC := hC_f (h := gB) (K := K) (q := K + 8)
  have rC : ∀ j, zR (hC gB K (K + 8)) K j = if j = 9 then some (K + 8) else zR gB K j := fun j => hC_r
  have NC : zN (hC gB K (K + 8)) = K + 12 := by rw [fBC.1, NB]
  generalize hC gB K (K + 8) = gC at *
  have Nc : zN (alloc gC 0 0) = K + 13 := by rw [zN_al, NC]
  obtain ⟨gE, eE, fE, ⟨rE1, rE2, rE3⟩, kE1, kE2, kE3⟩ := x_init0 (h := alloc gC 0 0) (a := K + 12) (ltK Nc (by decide)) (by rw [kd_al, if_pos (eqN NC)])
  rw [Nc] at rE1 rE2 rE3 kE1 kE2 kE3
  have NE : zN gE = K + 16 := by rw [fE.1, Nc]
  have kE12 : kd gE (K + 12) = 0 := (fE.2.1 (K + 12) (ltK Nc (by decide))).1.trans (by rw [kd_al, if_pos (eqN NC)])
  have fCE : fP gC gE (fun b => b = K ∨ b = K + 7) := fP_new (by rw [NC]; exact fE)
  have fBC' : fP gB gC (fun b => b = K ∨ b = K + 7) := fR_P fBC _ (Or.inl rfl)
  have fBE := fP_t fBC' fCE
  have kKE : kd gE K = 2 := (fBE.2.1 K (ltK0 NB (by decide))).1.trans kKB
  have rKE : zR gE K = zR gC K := (fE.2.2 K (ltK0 Nc (by decide)) (ne0K (by decide))).1.trans (by funext j; rw [zR_al, if_neg (by rw [NC]; exact ne0K (by decide))])
  rw [NC, eE, ob4_s, gd_d kKE]
  have fED := hD_f (h := gE) (K := K) (q := K + 12)
  have rD : ∀ j, zR (hD gE K (K + 12)) K j = if j = 19 then some (K + 17) else if j = 18 then some (K + 16) else if j = 16 then some (K + 12) else zR gE K j := fun j => by
    rw [hD_r (ltK0 NE (by decide)), NE]
  have ND : zN (hD gE K (K + 12)) = K + 18 := by rw [fED.1, NE]
  obtain ⟨kD1, kD2⟩ := hD_k (h := gE) (K := K) (q := K + 12) (ltK0 NE (by decide))
  rw [NE] at kD1 kD2
  generalize hD gE K (K + 12) = gD at *
  have fED' : fP gE gD (fun b => b = K ∨ b = K + 7) := fR_P fED _ (Or.inl rfl)
  have fAD := fP_t (fP_t fAB fBE) fED'
  have kKD : kd gD K = 2 := (fED'.2.1 K (ltK0 NE (by decide))).1.trans kKE
  have rK : ∀ j, zR gD K j = if j = 19 then some (K + 17) else if j = 18 then some (K + 16) else if j = 16 then some (K + 12) else if j = 9 then some (K + 8) else zR gA K j := fun j => by
    rw [rD j, rKE, rC j, rKB]
  have kW := fP_k fAD (ltK NA (by decide)) c7
  have r8 : zR gD K 8 = some (K + 7) := (rK 8).trans rA8
  obtain ⟨w1, ew1, fw1, pw1, kw1, ⟨sw11, sw12⟩, tw1, uw1⟩ := x_wS (h := gD) (K := K) (W := K + 7) (j := 0) (by decide) (ltK0 ND (by decide)) (ltK ND (by decide)) (ne0K (by decide)) r8 kW
  rw [ND] at pw1 kw1 sw11 sw12 tw1 uw1
  have Nw1 : zN w1 = K + 21 := by rw [fw1.1, ND]
  have kK_1 : kd w1 K = 2 := (fw1.2.1 K (ltK0 ND (by decide))).1.trans kKD
  have kW_1 := fR_k fw1 (ltK ND (by decide)) kW
  have rk_1 : zR w1 K = zR gD K := (fw1.2.2 K (ltK0 ND (by decide)) (ne0K (by decide))).1
  have r8_1 : zR w1 K 8 = some (K + 7) := by rw [rk_1]; exact r8
  obtain ⟨w2, ew2, fw2, pw2, kw2, ⟨sw21, sw22⟩, tw2, uw2⟩ := x_wS (h := w1) (K := K) (W := K + 7) (j := 1) (by decide) (ltK0 Nw1 (by decide)) (ltK Nw1 (by decide)) (ne0K (by decide)) r8_1 kW_1
  rw [Nw1] at pw2 kw2 sw21 sw22 tw2 uw2
  have Nw2 : zN w2 = K + 24 := by rw [fw2.1, Nw1]
  have kK_2 : kd w2 K = 2 := (fw2.2.1 K (ltK0 Nw1 (by decide))).1.trans kK_1
  have kW_2 := fR_k fw2 (ltK Nw1 (by decide)) kW_1
  have rk_2 : zR w2 K = zR w1 K := (fw2.2.2 K (ltK0 Nw1 (by decide)) (ne0K (by decide))).1
  have r8_2 : zR w2 K 8 = some (K + 7) := by rw [rk_2]; exact r8_1
  obtain ⟨w3, ew3, fw3, pw3, kw3, ⟨sw31, sw32⟩, tw3, uw3⟩ := x_wS (h := w2) (K := K) (W := K + 7) (j := 2) (by decide) (ltK0 Nw2 (by decide)) (ltK Nw2 (by decide)) (ne0K (by decide)) r8_2 kW_2
  rw [Nw2] at pw3 kw3 sw31 sw32 tw3 uw3
  have Nw3 : zN w3 = K + 27 := by rw [fw3.1, Nw2]
  have kK_3 : kd w3 K = 2 := (fw3.2.1 K (ltK0 Nw2 (by decide))).1.trans kK_2
  have kW_3 := fR_k fw3 (ltK Nw2 (by decide)) kW_2
  have rk_3 : zR w3 K = zR w2 K := (fw3.2.2 K (ltK0 Nw2 (by decide)) (ne0K (by decide))).1
  have r8_3 : zR w3 K 8 = some (K + 7) := by rw [rk_3]; exact r8_2
  obtain ⟨w4, ew4, fw4, pw4, kw4, ⟨sw41, sw42⟩, tw4, uw4⟩ := x_wS (h := w3) (K := K) (W := K + 7) (j := 3) (by decide) (ltK0 Nw3 (by decide)) (ltK Nw3 (by decide)) (ne0K (by decide)) r8_3 kW_3
  rw [Nw3] at pw4 kw4 sw41 sw42 tw4 uw4
  have Nw4 : zN w4 = K + 30 := by rw [fw4.1, Nw3]
  have kK_4 : kd w4 K = 2 := (fw4.2.1 K (ltK0 Nw3 (by decide))).1.trans kK_3
  have kW_4 := fR_k fw4 (ltK Nw3 (by decide)) kW_3
  have rk_4 : zR w4 K = zR w3 K := (fw4.2.2 K (ltK0 Nw3 (by decide)) (ne0K (by decide))).1
  have r8_4 : zR w4 K 8 = some (K + 7) := by rw [rk_4]; exact r8_3
  obtain ⟨w5, ew5, fw5, pw5, kw5, ⟨sw51, sw52⟩, tw5, uw5⟩ := x_wS (h := w4) (K := K) (W := K + 7) (j := 4) (by decide) (ltK0 Nw4 (by decide)) (ltK Nw4 (by decide)) (ne0K (by decide)) r8_4 kW_4
  rw [Nw4] at pw5 kw5 sw51 sw52 tw5 uw5
  have Nw5 : zN w5 = K + 33 := by rw [fw5.1, Nw4]
  have kK_5 : kd w5 K = 2 := (fw5.2.1 K (ltK0 Nw4 (by decide))).1.trans kK_4
  have kW_5 := fR_k fw5 (ltK Nw4 (by decide)) kW_4
  have rk_5 : zR w5 K = zR w4 K := (fw5.2.2 K (ltK0 Nw4 (by decide)) (ne0K (by decide))).1
  have r8_5 : zR w5 K 8 = some (K + 7) := by rw [rk_5]; exact r8_4
  have fw45 : fP w4 w5 (fun b => b = K ∨ b = K + 7) := fR_P fw5 _ (Or.inr rfl)
  have fw35 : fP w3 w5 (fun b => b = K ∨ b = K + 7) := fP_t (fR_P fw4 _ (Or.inr rfl)) fw45
  have fw25 : fP w2 w5 (fun b => b = K ∨ b = K + 7) := fP_t (fR_P fw3 _ (Or.inr rfl)) fw35
  have fw15 : fP w1 w5 (fun b => b = K ∨ b = K + 7) := fP_t (fR_P fw2 _ (Or.inr rfl)) fw25
  have fD5 : fP gD w5 (fun b => b = K ∨ b = K + 7) := fP_t (fR_P fw1 _ (Or.inr rfl)) fw15
  have fE5 := fP_t fED' fD5
  have fB5 := fP_t fBE fE5
  have fA5 := fP_t fAD fD5
  have rK5 : zR w5 K = zR gD K := by rw [rk_5, rk_4, rk_3, rk_2, rk_1]
  refine ⟨w5, ?_, ?_, Nw5, fun b hb => ?_⟩
  · rw [ew1]
    show (ac 1 8 <| ac 1 8 <| ac 1 8 <| ac 1 8 <| ac 1 5 <| ac 1 5 <| ac 1 5 <| ac 1 4 <| ac 3 18 <| ac 1 4 <| ac 3 60 <| ac 1 8 <| ac 1 8 <| ac 1 4 <| ac 2 432 <| gd (decide (kd w1 K = 2)) <| wS K 1 w1 _) = _
    rw [gd_d kK_1, ew2]
    show (ac 1 8 <| ac 1 8 <| ac 1 8 <| ac 1 8 <| ac 1 5 <| ac 1 5 <| ac 1 5 <| ac 1 4 <| ac 3 18 <| ac 1 4 <| ac 3 60 <| ac 1 8 <| ac 1 8 <| ac 1 4 <| ac 2 432 <| ac 1 4 <| ac 2 432 <| gd (decide (kd w2 K = 2)) <| wS K 2 w2 _) = _
    rw [gd_d kK_2, ew3]
    show (ac 1 8 <| ac 1 8 <| ac 1 8 <| ac 1 8 <| ac 1 5 <| ac 1 5 <| ac 1 5 <| ac 1 4 <| ac 3 18 <| ac 1 4 <| ac 3 60 <| ac 1 8 <| ac 1 8 <| ac 1 4 <| ac 2 432 <| ac 1 4 <| ac 2 432 <| ac 1 4 <| ac 2 432 <| gd (decide (kd w3 K = 2)) <| wS K 3 w3 _) = _
    rw [gd_d kK_3, ew4]
    show (ac 1 8 <| ac 1 8 <| ac 1 8 <| ac 1 8 <| ac 1 5 <| ac 1 5 <| ac 1 5 <| ac 1 4 <| ac 3 18 <| ac 1 4 <| ac 3 60 <| ac 1 8 <| ac 1 8 <| ac 1 4 <| ac 2 432 <| ac 1 4 <| ac 2 432 <| ac 1 4 <| ac 2 432 <| ac 1 4 <| ac 2 432 <| gd (decide (kd w4 K = 2)) <| wS K 4 w4 _) = _
    rw [gd_d kK_4, ew5]
    rfl
  · exact ⟨kK_5, (by rw [rK5]; exact (rK 1).trans rA1), (by rw [rK5]; exact (rK 2).trans rA2), (by rw [rK5]; exact (rK 3).trans rA3), (by rw [rK5]; exact (rK 4).trans rA4), (by rw [rK5]; exact (rK 6).trans rA6), (by rw [rK5]; exact (rK 7).trans rA7), (by rw [rK5]; exact (rK 8).trans rA8), (by rw [rK5]; exact (rK 9).trans rfl), (by rw [rK5]; exact (rK 16).trans rfl), (by rw [rK5]; exact (rK 18).trans rfl), (by rw [rK5]; exact (rK 19).trans rfl), (fP_k fA5 (ltK NA (a := 1) (by decide)) c1).1, (fP_k fA5 (ltK NA (a := 1) (by decide)) c1).2, (fP_k fA5 (ltK NA (a := 2) (by decide)) c2).1, (fP_k fA5 (ltK NA (a := 2) (by decide)) c2).2, (fP_k fA5 (ltK NA (a := 3) (by decide)) c3).1, (fP_k fA5 (ltK NA (a := 3) (by decide)) c3).2, (fP_k fA5 (ltK NA (a := 4) (by decide)) c4).1, (fP_k fA5 (ltK NA (a := 4) (by decide)) c4).2, (fP_k fD5 (ltK ND (a := 16) (by decide)) kD1).1, (fP_k fD5 (ltK ND (a := 16) (by decide)) kD1).2, (fP_k fD5 (ltK ND (a := 17) (by decide)) kD2).1, (fP_k fD5 (ltK ND (a := 17) (by decide)) kD2).2, (fP_k fA5 (ltK NA (a := 5) (by decide)) c5).1, (fP_k fA5 (ltK NA (a := 5) (by decide)) c5).2, (fP_k fA5 (ltK NA (a := 6) (by decide)) c6).1, (fP_k fA5 (ltK NA (a := 6) (by decide)) c6).2, kW_5.1, kW_5.2, (((pw5 0).trans ((pw4 0).trans ((pw3 0).trans ((pw2 0).trans (pw1 0)))))), (((pw5 1).trans ((pw4 1).trans ((pw3 1).trans (pw2 1))))), (((pw5 2).trans ((pw4 2).trans (pw3 2)))), (((pw5 3).trans (pw4 3))), ((pw5 4)), ((fB5.2.1 (K + 8) (ltK NB (a := 8) (by decide))).1.trans kB8), (by rw [(fB5.2.2 (K + 8) (ltK NB (a := 8) (by decide)) (nQ (by decide) (by decide))).1]; exact rB1), (fP_k fB5 (ltK NB (a := 9) (by decide)) kB1).1, (fP_k fB5 (ltK NB (a := 9) (by decide)) kB1).2, (by rw [(fB5.2.2 (K + 8) (ltK NB (a := 8) (by decide)) (nQ (by decide) (by decide))).1]; exact rB2), (fP_k fB5 (ltK NB (a := 10) (by decide)) kB2).1, (fP_k fB5 (ltK NB (a := 10) (by decide)) kB2).2, (by rw [(fB5.2.2 (K + 8) (ltK NB (a := 8) (by decide)) (nQ (by decide) (by decide))).1]; exact rB3), (fP_k fB5 (ltK NB (a := 11) (by decide)) kB3).1, (fP_k fB5 (ltK NB (a := 11) (by decide)) kB3).2, ((fE5.2.1 (K + 12) (ltK NE (a := 12) (by decide))).1.trans kE12), (by rw [(fE5.2.2 (K + 12) (ltK NE (a := 12) (by decide)) (nQ (by decide) (by decide))).1]; exact rE1), (fP_k fE5 (ltK NE (a := 13) (by decide)) kE1).1, (fP_k fE5 (ltK NE (a := 13) (by decide)) kE1).2, (by rw [(fE5.2.2 (K + 12) (ltK NE (a := 12) (by decide)) (nQ (by decide) (by decide))).1]; exact rE2), (fP_k fE5 (ltK NE (a := 14) (by decide)) kE2).1, (fP_k fE5 (ltK NE (a := 14) (by decide)) kE2).2, (by rw [(fE5.2.2 (K + 12) (ltK NE (a := 12) (by decide)) (nQ (by decide) (by decide))).1]; exact rE3), (fP_k fE5 (ltK NE (a := 15) (by decide)) kE3).1, (fP_k fE5 (ltK NE (a := 15) (by decide)) kE3).2, ((fw15.2.1 (K + 18) (ltK Nw1 (a := 18) (by decide))).1.trans kw1), (by rw [(fw15.2.2 (K + 18) (ltK Nw1 (a := 18) (by decide)) (nQ (by decide) (by decide))).1]; exact sw11), (by rw [(fw15.2.2 (K + 18) (ltK Nw1 (a := 18) (by decide)) (nQ (by decide) (by decide))).1]; exact sw12), (fP_k fw15 (ltK Nw1 (a := 19) (by decide)) tw1).1, (fP_k fw15 (ltK Nw1 (a := 19) (by decide)) tw1).2, (fP_k fw15 (ltK Nw1 (a := 20) (by decide)) uw1).1, (fP_k fw15 (ltK Nw1 (a := 20) (by decide)) uw1).2, ((fw25.2.1 (K + 21) (ltK Nw2 (a := 21) (by decide))).1.trans kw2), (by rw [(fw25.2.2 (K + 21) (ltK Nw2 (a := 21) (by decide)) (nQ (by decide) (by decide))).1]; exact sw21), (by rw [(fw25.2.2 (K + 21) (ltK Nw2 (a := 21) (by decide)) (nQ (by decide) (by decide))).1]; exact sw22), (fP_k fw25 (ltK Nw2 (a := 22) (by decide)) tw2).1, (fP_k fw25 (ltK Nw2 (a := 22) (by decide)) tw2).2, (fP_k fw25 (ltK Nw2 (a := 23) (by decide)) uw2).1, (fP_k fw25 (ltK Nw2 (a := 23) (by decide)) uw2).2, ((fw35.2.1 (K + 24) (ltK Nw3 (a := 24) (by decide))).1.trans kw3), (by rw [(fw35.2.2 (K + 24) (ltK Nw3 (a := 24) (by decide)) (nQ (by decide) (by decide))).1]; exact sw31), (by rw [(fw35.2.2 (K + 24) (ltK Nw3 (a := 24) (by decide)) (nQ (by decide) (by decide))).1]; exact sw32), (fP_k fw35 (ltK Nw3 (a := 25) (by decide)) tw3).1, (fP_k fw35 (ltK Nw3 (a := 25) (by decide)) tw3).2, (fP_k fw35 (ltK Nw3 (a := 26) (by decide)) uw3).1, (fP_k fw35 (ltK Nw3 (a := 26) (by decide)) uw3).2, ((fw45.2.1 (K + 27) (ltK Nw4 (a := 27) (by decide))).1.trans kw4), (by rw [(fw45.2.2 (K + 27) (ltK Nw4 (a := 27) (by decide)) (nQ (by decide) (by decide))).1]; exact sw41), (by rw [(fw45.2.2 (K + 27) (ltK Nw4 (a := 27) (by decide)) (nQ (by decide) (by decide))).1]; exact sw42), (fP_k fw45 (ltK Nw4 (a := 28) (by decide)) tw4).1, (fP_k fw45 (ltK Nw4 (a := 28) (by decide)) tw4).2, (fP_k fw45 (ltK Nw4 (a := 29) (by decide)) uw4).1, (fP_k fw45 (ltK Nw4 (a := 29) (by decide)) uw4).2, kw5, sw51, sw52, tw5.1, tw5.2, uw5.1, uw5.2⟩
  · have x1 := fR_al h 2 0 K
    have hb' : b < zN h := by rw [hK]; exact hb
    have bk : b ≠ K := Nat.ne_of_lt hb
    have y1 := x1.2.1 b hb'
    have y2 := x1.2.2 b hb' bk
    have z1 := fA.2.1 b (ltb N1 hb)
    have z2 := fA.2.2 b (ltb N1 hb) bk
    have v1 := fA5.2.1 b (ltb NA hb)
    have v2 := fA5.2.2 b (ltb NA hb) (nQb hb)
    exact ⟨v1.1.trans (z1.1.trans y1.1), v1.2.trans (z1.2.trans y1.2), v2.1.trans (z2.1.trans y2.1), v2.2.trans (z2.2.trans y2.2)⟩
end MAKE4
