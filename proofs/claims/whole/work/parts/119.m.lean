theorem dX5_compare_0 : decode cX5_compare 0 = .ok (.iconst 0, 1) := by decide +kernel
theorem dX5_compare_1 : decode cX5_compare 1 = .ok (.istore_n 3, 1) := by decide +kernel
theorem dX5_compare_2 : decode cX5_compare 2 = .ok (.iconst 0, 1) := by decide +kernel
theorem dX5_compare_3 : decode cX5_compare 3 = .ok (.istore 4, 2) := by decide +kernel
theorem dX5_compare_5 : decode cX5_compare 5 = .ok (.iload 4, 2) := by decide +kernel
theorem dX5_compare_7 : decode cX5_compare 7 = .ok (.aload_n 1, 1) := by decide +kernel
theorem dX5_compare_8 : decode cX5_compare 8 = .ok (.getfield 59, 3) := by decide +kernel
theorem dX5_compare_11 : decode cX5_compare 11 = .ok (.if_icmp .ge 23, 3) := by decide +kernel
theorem dX5_compare_14 : decode cX5_compare 14 = .ok (.iload_n 3, 1) := by decide +kernel
theorem dX5_compare_15 : decode cX5_compare 15 = .ok (.aload_n 0, 1) := by decide +kernel
theorem dX5_compare_16 : decode cX5_compare 16 = .ok (.iload 4, 2) := by decide +kernel
theorem dX5_compare_18 : decode cX5_compare 18 = .ok (.aload_n 1, 1) := by decide +kernel
theorem dX5_compare_19 : decode cX5_compare 19 = .ok (.aload_n 2, 1) := by decide +kernel
theorem dX5_compare_20 : decode cX5_compare 20 = .ok (.getfield 62, 3) := by decide +kernel
theorem dX5_compare_23 : decode cX5_compare 23 = .ok (.invokevirtual 65, 3) := by decide +kernel
theorem dX5_compare_26 : decode cX5_compare 26 = .ok (.iadd, 1) := by decide +kernel
theorem dX5_compare_27 : decode cX5_compare 27 = .ok (.istore_n 3, 1) := by decide +kernel
theorem dX5_compare_28 : decode cX5_compare 28 = .ok (.iinc 4 1, 3) := by decide +kernel
theorem dX5_compare_31 : decode cX5_compare 31 = .ok (.goto (-26), 3) := by decide +kernel
theorem dX5_compare_34 : decode cX5_compare 34 = .ok (.iload_n 3, 1) := by decide +kernel
theorem dX5_compare_35 : decode cX5_compare 35 = .ok (.aload_n 0, 1) := by decide +kernel
theorem dX5_compare_36 : decode cX5_compare 36 = .ok (.getfield 19, 3) := by decide +kernel
theorem dX5_compare_39 : decode cX5_compare 39 = .ok (.if_icmp .le 20, 3) := by decide +kernel
theorem dX5_compare_42 : decode cX5_compare 42 = .ok (.aload_n 0, 1) := by decide +kernel
theorem dX5_compare_43 : decode cX5_compare 43 = .ok (.iload_n 3, 1) := by decide +kernel
theorem dX5_compare_44 : decode cX5_compare 44 = .ok (.putfield 19, 3) := by decide +kernel
theorem dX5_compare_47 : decode cX5_compare 47 = .ok (.aload_n 0, 1) := by decide +kernel
theorem dX5_compare_48 : decode cX5_compare 48 = .ok (.aload_n 1, 1) := by decide +kernel
theorem dX5_compare_49 : decode cX5_compare 49 = .ok (.aload_n 2, 1) := by decide +kernel
theorem dX5_compare_50 : decode cX5_compare 50 = .ok (.getfield 62, 3) := by decide +kernel
theorem dX5_compare_53 : decode cX5_compare 53 = .ok (.invokevirtual 69, 3) := by decide +kernel
theorem dX5_compare_56 : decode cX5_compare 56 = .ok (.putfield 15, 3) := by decide +kernel
theorem dX5_compare_59 : decode cX5_compare 59 = .ok (.return_, 1) := by decide +kernel
set_option maxRecDepth 100000 in
def F_X5_compare_l5 (v0 : Nat) (v1 : Nat) (v2 : Nat) (v3 : Int32) (v4 : Int32) (h : Hp) : Option ((Int32 × Int32 × Hp) ⊕ (Int32 × Hp)) :=
  gd (decide (kd h v1 = 2)) <| (if (zI h v1 5) ≤ v4 then some (.inr (v3, h)) else gd (decide (kd h v2 = 8)) <| ob (zR h v2 0) fun q3 => ob2 (F_X5_metBy v0 v4 v1 q3 h) fun r6 h7 => gd (decide (kd h v0 = 5)) <| some (.inl (v3 + r6, v4 + (1 : Int32), h7)))
set_option maxHeartbeats 4000000 in
set_option maxRecDepth 100000 in
theorem r_X5_compare_l5 (v0 : Nat) (v1 : Nat) (v2 : Nat) (v3 : Int32) (v4 : Int32) (h : Hp) {x : Cx} {o : ((Int32 × Int32 × Hp) ⊕ (Int32 × Hp))} (e : F_X5_compare_l5 v0 v1 v2 v3 v4 h = some o) (kI : ∀ z, o = .inl z → V M_X5_compare x 5 5 [(0, .ref v0), (1, .ref v1), (2, .ref v2), (3, .int z.1), (4, .int z.2.1)] [] z.2.2 0 0) (kE34 : ∀ z : Int32 × Hp, o = .inr z → V M_X5_compare x 5 34 [(0, .ref v0), (1, .ref v1), (2, .ref v2), (3, .int z.1)] [] z.2 0 0) : V M_X5_compare x 5 5 [(0, .ref v0), (1, .ref v1), (2, .ref v2), (3, .int v3), (4, .int v4)] [] h 0 0 := by
  unfold F_X5_compare_l5 at e
  refine V_iload (pc := 5) (i := 4) dX5_compare_5 rfl ?_
  refine V_aload_n (pc := 7) (i := 1) dX5_compare_7 rfl rfl ?_
  obtain ⟨g1, e⟩ := gd_some e
  refine V_getI (pc := 8) (ci := 2) (k := 5) dX5_compare_8 fl_X5_59 rfl (of_decide_eq_true g1) ?_
  refine V_icmp_ge (pc := 11) (tgt := 34) dX5_compare_11 (by decide) (fun c9 => ?_) (fun c9 => ?_)
  · rw [if_pos c9] at e
    cases e
    exact V_pick [0, 1, 2, 3] rfl (kE34 (v3, h) rfl)
  · rw [if_neg c9] at e
    refine V_pick [0, 1, 2, 3, 4] rfl ?_
    refine V_iload_n (pc := 14) (i := 3) dX5_compare_14 rfl rfl ?_
    refine V_aload_n (pc := 15) (i := 0) dX5_compare_15 rfl rfl ?_
    refine V_iload (pc := 16) (i := 4) dX5_compare_16 rfl ?_
    refine V_aload_n (pc := 18) (i := 1) dX5_compare_18 rfl rfl ?_
    refine V_aload_n (pc := 19) (i := 2) dX5_compare_19 rfl rfl ?_
    obtain ⟨g2, e⟩ := gd_some e
    obtain ⟨q3, g4, e⟩ := ob_some e
    refine V_getR (pc := 20) (ci := 8) (k := 0) (b := q3) dX5_compare_20 fl_X5_62 rfl (of_decide_eq_true g2) g4 ?_
    obtain ⟨r6, h7, g5, e⟩ := ob2_some e
    obtain ⟨g8, e⟩ := gd_some e
    refine V_callV (pc := 23) (bc := 0) (bs := 0) (mc := 0) (ms := 0) (st := [.int v3]) (As := [.int v4, .ref v1, .ref q3]) (a := v0) (h' := h7) (r := some (.int r6)) dX5_compare_23 ml_X5_65 (ci := 5) rfl (of_decide_eq_true g8) rfl rfl (Nat.le_of_ble_eq_true rfl) (d' := 4) (by decide) (c_X5_metBy (l := x.2.1) v0 v4 v1 q3 h g5) ?_
    refine V_iadd (pc := 26) dX5_compare_26 ?_
    refine V_istore_n (pc := 27) (i := 3) (lv' := [(3, .int (v3 + r6)), (0, .ref v0), (1, .ref v1), (2, .ref v2), (4, .int v4)]) dX5_compare_27 rfl (by decide) rfl ?_
    refine V_iinc (pc := 28) (i := 4) (u := v4 + (1 : Int32)) (lv' := [(4, .int (v4 + (1 : Int32))), (3, .int (v3 + r6)), (0, .ref v0), (1, .ref v1), (2, .ref v2)]) dX5_compare_28 rfl rfl (by decide) rfl ?_
    refine V_goto (pc := 31) (tgt := 5) dX5_compare_31 (by decide) ?_
    cases e
    exact V_pick [2, 3, 4, 1, 0] rfl (kI (v3 + r6, v4 + (1 : Int32), h7) rfl)
set_option maxRecDepth 100000 in
def F_X5_compare_b59  (h : Hp) : Option (Unit × Hp) :=
  some ((), h)
set_option maxHeartbeats 4000000 in
set_option maxRecDepth 100000 in
theorem r_X5_compare_b59  (h : Hp) {x : Cx} {r : Unit} {hz : Hp} (e : F_X5_compare_b59  h = some (r, hz)) (hF : Fin9 M_X5_compare x none none hz) : V M_X5_compare x 5 59 [] [] h 0 0 := by
  unfold F_X5_compare_b59 at e
  cases e
  exact V_vret (pc := 59) dX5_compare_59 hF
set_option maxRecDepth 100000 in
def F_X5_compare_b0 (v0 : Nat) (v1 : Nat) (v2 : Nat) (h : Hp) : Option (Unit × Hp) :=
  ob (iter (fun z : Int32 × Int32 × Hp => F_X5_compare_l5 v0 v1 v2 z.1 z.2.1 z.2.2) FU ((0 : Int32), (0 : Int32), h)) (fun z => un2 z fun w10 h11 => gd (decide (kd h11 v0 = 5)) <| (if w10 ≤ (zI h11 v0 2) then F_X5_compare_b59 h11 else gd (decide (kd (setI h11 v0 2 w10) v2 = 8)) <| ob (zR (setI h11 v0 2 w10) v2 0) fun q14 => ob (F_X2_asNumber v1 q14 (setI h11 v0 2 w10)) fun r17 => gd (decide (kd (setI h11 v0 2 w10) v1 = 2)) <| F_X5_compare_b59 (setI (setI h11 v0 2 w10) v0 1 r17)))
set_option maxHeartbeats 4000000 in
set_option maxRecDepth 100000 in
theorem r_X5_compare_b0 (v0 : Nat) (v1 : Nat) (v2 : Nat) (h : Hp) {x : Cx} {r : Unit} {hz : Hp} (e : F_X5_compare_b0 v0 v1 v2 h = some (r, hz)) (hF : Fin9 M_X5_compare x none none hz) : V M_X5_compare x 5 0 [(0, .ref v0), (1, .ref v1), (2, .ref v2)] [] h 0 0 := by
  unfold F_X5_compare_b0 at e
  refine V_iconst (pc := 0) (v := (0 : Int32)) dX5_compare_0 (by decide) ?_
  refine V_istore_n (pc := 1) (i := 3) (lv' := [(3, .int (0 : Int32)), (0, .ref v0), (1, .ref v1), (2, .ref v2)]) dX5_compare_1 rfl (by decide) rfl ?_
  refine V_iconst (pc := 2) (v := (0 : Int32)) dX5_compare_2 (by decide) ?_
  refine V_istore (pc := 3) (i := 4) (lv' := [(4, .int (0 : Int32)), (3, .int (0 : Int32)), (0, .ref v0), (1, .ref v1), (2, .ref v2)]) dX5_compare_3 (by decide) rfl ?_
  refine V_pick [2, 3, 4, 1, 0] rfl ?_
  obtain ⟨y20, g21, e⟩ := ob_some e
  refine iter_V (P := fun z : Int32 × Int32 × Hp => V M_X5_compare x 5 5 [(0, .ref v0), (1, .ref v1), (2, .ref v2), (3, .int z.1), (4, .int z.2.1)] [] z.2.2 0 0) (E := fun z : Int32 × Hp => V M_X5_compare x 5 34 [(0, .ref v0), (1, .ref v1), (2, .ref v2), (3, .int z.1)] [] z.2 0 0) (fun z o e9 k1 k2 => r_X5_compare_l5 v0 v1 v2 z.1 z.2.1 z.2.2 e9 (fun z hz9 => k1 z hz9) (fun z hz9 => k2 _ hz9)) _ _ _ g21 ?_
  clear g21
  obtain ⟨w10, h11⟩ := y20
  replace e : (gd (decide (kd h11 v0 = 5)) <| (if w10 ≤ (zI h11 v0 2) then F_X5_compare_b59 h11 else gd (decide (kd (setI h11 v0 2 w10) v2 = 8)) <| ob (zR (setI h11 v0 2 w10) v2 0) fun q14 => ob (F_X2_asNumber v1 q14 (setI h11 v0 2 w10)) fun r17 => gd (decide (kd (setI h11 v0 2 w10) v1 = 2)) <| F_X5_compare_b59 (setI (setI h11 v0 2 w10) v0 1 r17))) = some (r, hz) := e
  show V M_X5_compare x 5 34 [(0, .ref v0), (1, .ref v1), (2, .ref v2), (3, .int w10)] [] h11 0 0
  refine V_iload_n (pc := 34) (i := 3) dX5_compare_34 rfl rfl ?_
  refine V_aload_n (pc := 35) (i := 0) dX5_compare_35 rfl rfl ?_
  obtain ⟨g12, e⟩ := gd_some e
  refine V_getI (pc := 36) (ci := 5) (k := 2) dX5_compare_36 fl_X5_19 rfl (of_decide_eq_true g12) ?_
  refine V_icmp_le (pc := 39) (tgt := 59) dX5_compare_39 (by decide) (fun c19 => ?_) (fun c19 => ?_)
  · rw [if_pos c19] at e
    exact V_pick [] rfl (r_X5_compare_b59 h11 e hF)
  · rw [if_neg c19] at e
    refine V_pick [0, 1, 2, 3] rfl ?_
    refine V_aload_n (pc := 42) (i := 0) dX5_compare_42 rfl rfl ?_
    refine V_iload_n (pc := 43) (i := 3) dX5_compare_43 rfl rfl ?_
    refine V_putI (pc := 44) (ci := 5) (k := 2) dX5_compare_44 fp_X5_19 rfl (of_decide_eq_true g12) ?_
    refine V_aload_n (pc := 47) (i := 0) dX5_compare_47 rfl rfl ?_
    refine V_aload_n (pc := 48) (i := 1) dX5_compare_48 rfl rfl ?_
    refine V_aload_n (pc := 49) (i := 2) dX5_compare_49 rfl rfl ?_
    obtain ⟨g13, e⟩ := gd_some e
    obtain ⟨q14, g15, e⟩ := ob_some e
    refine V_getR (pc := 50) (ci := 8) (k := 0) (b := q14) dX5_compare_50 fl_X5_62 rfl (of_decide_eq_true g13) g15 ?_
    obtain ⟨r17, g16, e⟩ := ob_some e
    obtain ⟨g18, e⟩ := gd_some e
    refine V_callV (pc := 53) (bc := 0) (bs := 0) (mc := 0) (ms := 0) (st := [.ref v0]) (As := [.ref q14]) (a := v1) (h' := (setI h11 v0 2 w10)) (r := some (.int r17)) dX5_compare_53 ml_X5_69 (ci := 2) rfl (of_decide_eq_true g18) rfl rfl (Nat.le_of_ble_eq_true rfl) (d' := 0) (by decide) (c_X2_asNumber (l := x.2.1) v1 q14 (setI h11 v0 2 w10) g16) ?_
    refine V_putI (pc := 56) (ci := 5) (k := 1) dX5_compare_56 fp_X5_15 rfl (kd_sI (of_decide_eq_true g12)) ?_
    exact V_pick [] rfl (r_X5_compare_b59 (setI (setI h11 v0 2 w10) v0 1 r17) e hF)
def F_X5_compare (v0 : Nat) (v1 : Nat) (v2 : Nat) (h : Hp) : Option (Unit × Hp) := F_X5_compare_b0 v0 v1 v2 h
theorem c_X5_compare {l : Launch} (v0 : Nat) (v1 : Nat) (v2 : Nat) (h : Hp) {r : Unit} {hz : Hp} (e : F_X5_compare v0 v1 v2 h = some (r, hz)) : Ct l yX5_compare M_X5_compare none 5 [.ref v0, .ref v1, .ref v2] h 0 0 none hz :=
  Ct_of rfl rfl (fun q => by cases q) (Nat.le_of_ble_eq_true rfl) (fun x _ hF => V_pick [0, 1, 2] rfl (r_X5_compare_b0 v0 v1 v2 h e hF))
theorem dX10_readAny_0 : decode cX10_readAny 0 = .ok (.aload_n 0, 1) := by decide +kernel
theorem dX10_readAny_1 : decode cX10_readAny 1 = .ok (.aload_n 1, 1) := by decide +kernel
theorem dX10_readAny_2 : decode cX10_readAny 2 = .ok (.iload_n 2, 1) := by decide +kernel
theorem dX10_readAny_3 : decode cX10_readAny 3 = .ok (.invokevirtual 47, 3) := by decide +kernel
theorem dX10_readAny_6 : decode cX10_readAny 6 = .ok (.ifCond .ne 5, 3) := by decide +kernel
theorem dX10_readAny_9 : decode cX10_readAny 9 = .ok (.iconst 0, 1) := by decide +kernel
theorem dX10_readAny_10 : decode cX10_readAny 10 = .ok (.ireturn, 1) := by decide +kernel
theorem dX10_readAny_11 : decode cX10_readAny 11 = .ok (.iconst 0, 1) := by decide +kernel
theorem dX10_readAny_12 : decode cX10_readAny 12 = .ok (.istore_n 3, 1) := by decide +kernel
theorem dX10_readAny_13 : decode cX10_readAny 13 = .ok (.iload_n 3, 1) := by decide +kernel
theorem dX10_readAny_14 : decode cX10_readAny 14 = .ok (.sipush 400, 3) := by decide +kernel
theorem dX10_readAny_17 : decode cX10_readAny 17 = .ok (.if_icmp .ge 40, 3) := by decide +kernel
theorem dX10_readAny_20 : decode cX10_readAny 20 = .ok (.aload_n 1, 1) := by decide +kernel
theorem dX10_readAny_21 : decode cX10_readAny 21 = .ok (.ldc 50, 2) := by decide +kernel
theorem dX10_readAny_23 : decode cX10_readAny 23 = .ok (.invokevirtual 52, 3) := by decide +kernel
theorem dX10_readAny_26 : decode cX10_readAny 26 = .ok (.ifCond .eq 31, 3) := by decide +kernel
theorem dX10_readAny_29 : decode cX10_readAny 29 = .ok (.aload_n 1, 1) := by decide +kernel
theorem dX10_readAny_30 : decode cX10_readAny 30 = .ok (.invokevirtual 55, 3) := by decide +kernel
theorem dX10_readAny_33 : decode cX10_readAny 33 = .ok (.aload_n 0, 1) := by decide +kernel
theorem dX10_readAny_34 : decode cX10_readAny 34 = .ok (.aload_n 1, 1) := by decide +kernel
theorem dX10_readAny_35 : decode cX10_readAny 35 = .ok (.iload_n 2, 1) := by decide +kernel
theorem dX10_readAny_36 : decode cX10_readAny 36 = .ok (.invokevirtual 47, 3) := by decide +kernel
theorem dX10_readAny_39 : decode cX10_readAny 39 = .ok (.ifCond .ne 5, 3) := by decide +kernel
theorem dX10_readAny_42 : decode cX10_readAny 42 = .ok (.iconst 0, 1) := by decide +kernel
theorem dX10_readAny_43 : decode cX10_readAny 43 = .ok (.ireturn, 1) := by decide +kernel
theorem dX10_readAny_44 : decode cX10_readAny 44 = .ok (.aload_n 0, 1) := by decide +kernel
theorem dX10_readAny_45 : decode cX10_readAny 45 = .ok (.bipush (-5), 2) := by decide +kernel
theorem dX10_readAny_47 : decode cX10_readAny 47 = .ok (.invokevirtual 43, 3) := by decide +kernel
theorem dX10_readAny_50 : decode cX10_readAny 50 = .ok (.pop, 1) := by decide +kernel
theorem dX10_readAny_51 : decode cX10_readAny 51 = .ok (.iinc 3 1, 3) := by decide +kernel
theorem dX10_readAny_54 : decode cX10_readAny 54 = .ok (.goto (-41), 3) := by decide +kernel
theorem dX10_readAny_57 : decode cX10_readAny 57 = .ok (.iconst 1, 1) := by decide +kernel
theorem dX10_readAny_58 : decode cX10_readAny 58 = .ok (.ireturn, 1) := by decide +kernel
set_option maxRecDepth 100000 in
def F_X10_readAny_l13 (rc : Nat → Nat → Nat → Int32 → Hp → Option (Int32 × Hp)) (v0 : Nat) (v1 : Nat) (v2 : Int32) (v3 : Int32) (h : Hp) : Option ((Int32 × Hp) ⊕ (Hp ⊕ Hp)) :=
  (if (400 : Int32) ≤ v3 then some (.inr (.inl h)) else ob (F_X6_isWord v1 (25 : UInt32) h) fun r6 => gd (decide (kd h v1 = 6)) <| (if r6 = 0 then some (.inr (.inl h)) else ob2 (F_X6_lookAtNext v1 h) fun _ h10 => ob2 (rc 1 v0 v1 v2 h10) fun r12 h13 => gd (decide (kd h10 v0 = 9)) <| (if r12 = 0 then some (.inr (.inr h13)) else ob2 (F_X10_put v0 (-5 : Int32) h13) fun r16 h17 => gd (decide (kd h13 v0 = 9)) <| some (.inl (v3 + (1 : Int32), h17)))))
set_option maxHeartbeats 4000000 in
set_option maxRecDepth 100000 in
theorem r_X10_readAny_l13 (rc : Nat → Nat → Nat → Int32 → Hp → Option (Int32 × Hp)) (v0 : Nat) (v1 : Nat) (v2 : Int32) (v3 : Int32) (h : Hp) {x : Cx} {o : ((Int32 × Hp) ⊕ (Hp ⊕ Hp))} (e : F_X10_readAny_l13 rc v0 v1 v2 v3 h = some o) {D9 : Nat} (hD9 : 20 ≤ D9) (hrc0 : ∀ (a0 : Nat) (a1 : Nat) (a2 : Int32) (h9 : Hp) (r9 : Int32) (z9 : Hp), rc 0 a0 a1 a2 h9 = some (r9, z9) → Ct x.2.1 yX10_readAny M_X10_readAny (some .boolean) D9 [.ref a0, .ref a1, .int a2] h9 0 0 (some (.int r9)) z9) (hrc1 : ∀ (a0 : Nat) (a1 : Nat) (a2 : Int32) (h9 : Hp) (r9 : Int32) (z9 : Hp), rc 1 a0 a1 a2 h9 = some (r9, z9) → Ct x.2.1 yX10_readEach M_X10_readEach (some .boolean) D9 [.ref a0, .ref a1, .int a2] h9 0 0 (some (.int r9)) z9) (hrc2 : ∀ (a0 : Nat) (a1 : Nat) (a2 : Int32) (h9 : Hp) (r9 : Int32) (z9 : Hp), rc 2 a0 a1 a2 h9 = some (r9, z9) → Ct x.2.1 yX10_readAtom M_X10_readAtom (some .boolean) D9 [.ref a0, .ref a1, .int a2] h9 0 0 (some (.int r9)) z9) (hrc3 : ∀ (a0 : Nat) (a1 : Nat) (a2 : Int32) (h9 : Hp) (r9 : Int32) (z9 : Hp), rc 3 a0 a1 a2 h9 = some (r9, z9) → Ct x.2.1 yX10_readDeeper M_X10_readDeeper (some .boolean) D9 [.ref a0, .ref a1, .int a2] h9 0 0 (some (.int r9)) z9) (kI : ∀ z, o = .inl z → V M_X10_readAny x (D9 + 1) 13 [(0, .ref v0), (1, .ref v1), (2, .int v2), (3, .int z.1)] [] z.2 0 0) (kE57 : ∀ z : Hp, o = .inr (.inl z) → V M_X10_readAny x (D9 + 1) 57 [] [] z 0 0) (kE42 : ∀ z : Hp, o = .inr (.inr z) → V M_X10_readAny x (D9 + 1) 42 [] [] z 0 0) : V M_X10_readAny x (D9 + 1) 13 [(0, .ref v0), (1, .ref v1), (2, .int v2), (3, .int v3)] [] h 0 0 := by
  unfold F_X10_readAny_l13 at e
  refine V_iload_n (pc := 13) (i := 3) dX10_readAny_13 rfl rfl ?_
  refine V_sipush (pc := 14) (v := (400 : Int32)) dX10_readAny_14 (by decide) ?_
  refine V_icmp_ge (pc := 17) (tgt := 57) dX10_readAny_17 (by decide) (fun c21 => ?_) (fun c21 => ?_)
  · rw [if_pos c21] at e
    cases e
    exact V_pick [] rfl (kE57 h rfl)
  · rw [if_neg c21] at e
    refine V_pick [0, 1, 2, 3] rfl ?_
    refine V_aload_n (pc := 20) (i := 1) dX10_readAny_20 rfl rfl ?_
    refine V_ldcS (pc := 21) (j := 25) (u := (25 : UInt32)) dX10_readAny_21 rfl (by decide) ?_
    obtain ⟨r6, g5, e⟩ := ob_some e
    obtain ⟨g7, e⟩ := gd_some e
    refine V_callV (pc := 23) (bc := 0) (bs := 0) (mc := 0) (ms := 0) (st := []) (As := [.float (25 : UInt32)]) (a := v1) (h' := h) (r := some (.int r6)) dX10_readAny_23 ml_X10_52 (ci := 6) rfl (of_decide_eq_true g7) rfl rfl (Nat.le_of_ble_eq_true rfl) (d' := 4) (by omega) (c_X6_isWord (l := x.2.1) v1 (25 : UInt32) h g5) ?_
    refine V_if_eq (pc := 26) (tgt := 57) dX10_readAny_26 (by decide) (fun c20 => ?_) (fun c20 => ?_)
    · rw [if_pos c20] at e
      cases e
      exact V_pick [] rfl (kE57 h rfl)
    · rw [if_neg c20] at e
      refine V_pick [0, 1, 2, 3] rfl ?_
      refine V_aload_n (pc := 29) (i := 1) dX10_readAny_29 rfl rfl ?_
      obtain ⟨r9, h10, g8, e⟩ := ob2_some e
      refine V_callV (pc := 30) (bc := 0) (bs := 0) (mc := 0) (ms := 0) (st := []) (As := []) (a := v1) (h' := h10) (r := none) dX10_readAny_30 ml_X10_55 (ci := 6) rfl (of_decide_eq_true g7) rfl rfl (Nat.le_of_ble_eq_true rfl) (d' := 1) (by omega) (c_X6_lookAtNext (l := x.2.1) v1 h g8) ?_
      refine V_aload_n (pc := 33) (i := 0) dX10_readAny_33 rfl rfl ?_
      refine V_aload_n (pc := 34) (i := 1) dX10_readAny_34 rfl rfl ?_
      refine V_iload_n (pc := 35) (i := 2) dX10_readAny_35 rfl rfl ?_
      obtain ⟨r12, h13, g11, e⟩ := ob2_some e
      obtain ⟨g14, e⟩ := gd_some e
      refine V_callV (pc := 36) (bc := 0) (bs := 0) (mc := 0) (ms := 0) (st := []) (As := [.ref v1, .int v2]) (a := v0) (h' := h13) (r := some (.int r12)) dX10_readAny_36 ml_X10_47 (ci := 9) rfl (of_decide_eq_true g14) rfl rfl (Nat.le_of_ble_eq_true rfl) (d' := D9) (by omega) (hrc1 v0 v1 v2 h10 _ _ g11) ?_
      refine V_if_ne (pc := 39) (tgt := 44) dX10_readAny_39 (by decide) (fun c19 => ?_) (fun c19 => ?_)
      · rw [if_neg c19] at e
        refine V_pick [0, 1, 2, 3] rfl ?_
        refine V_aload_n (pc := 44) (i := 0) dX10_readAny_44 rfl rfl ?_
        refine V_bipush (pc := 45) (v := (-5 : Int32)) dX10_readAny_45 (by decide) ?_
        obtain ⟨r16, h17, g15, e⟩ := ob2_some e
        obtain ⟨g18, e⟩ := gd_some e
        refine V_callV (pc := 47) (bc := 0) (bs := 0) (mc := 0) (ms := 0) (st := []) (As := [.int (-5 : Int32)]) (a := v0) (h' := h17) (r := some (.int r16)) dX10_readAny_47 ml_X10_43 (ci := 9) rfl (of_decide_eq_true g18) rfl rfl (Nat.le_of_ble_eq_true rfl) (d' := 0) (by omega) (c_X10_put (l := x.2.1) v0 (-5 : Int32) h13 g15) ?_
        refine V_pop (pc := 50) dX10_readAny_50 rfl ?_
        refine V_iinc (pc := 51) (i := 3) (u := v3 + (1 : Int32)) (lv' := [(3, .int (v3 + (1 : Int32))), (0, .ref v0), (1, .ref v1), (2, .int v2)]) dX10_readAny_51 rfl rfl (by decide) rfl ?_
        refine V_goto (pc := 54) (tgt := 13) dX10_readAny_54 (by decide) ?_
        cases e
        exact V_pick [1, 2, 3, 0] rfl (kI (v3 + (1 : Int32), h17) rfl)
      · rw [if_pos c19] at e
        cases e
        exact V_pick [] rfl (kE42 h13 rfl)
set_option maxRecDepth 100000 in
def F_X10_readAny_b57 (rc : Nat → Nat → Nat → Int32 → Hp → Option (Int32 × Hp))  (h : Hp) : Option (Int32 × Hp) :=
  some ((1 : Int32), h)
set_option maxHeartbeats 4000000 in
set_option maxRecDepth 100000 in
theorem r_X10_readAny_b57 (rc : Nat → Nat → Nat → Int32 → Hp → Option (Int32 × Hp))  (h : Hp) {x : Cx} {r : Int32} {hz : Hp} (e : F_X10_readAny_b57 rc  h = some (r, hz)) {D9 : Nat} (hD9 : 20 ≤ D9) (hrc0 : ∀ (a0 : Nat) (a1 : Nat) (a2 : Int32) (h9 : Hp) (r9 : Int32) (z9 : Hp), rc 0 a0 a1 a2 h9 = some (r9, z9) → Ct x.2.1 yX10_readAny M_X10_readAny (some .boolean) D9 [.ref a0, .ref a1, .int a2] h9 0 0 (some (.int r9)) z9) (hrc1 : ∀ (a0 : Nat) (a1 : Nat) (a2 : Int32) (h9 : Hp) (r9 : Int32) (z9 : Hp), rc 1 a0 a1 a2 h9 = some (r9, z9) → Ct x.2.1 yX10_readEach M_X10_readEach (some .boolean) D9 [.ref a0, .ref a1, .int a2] h9 0 0 (some (.int r9)) z9) (hrc2 : ∀ (a0 : Nat) (a1 : Nat) (a2 : Int32) (h9 : Hp) (r9 : Int32) (z9 : Hp), rc 2 a0 a1 a2 h9 = some (r9, z9) → Ct x.2.1 yX10_readAtom M_X10_readAtom (some .boolean) D9 [.ref a0, .ref a1, .int a2] h9 0 0 (some (.int r9)) z9) (hrc3 : ∀ (a0 : Nat) (a1 : Nat) (a2 : Int32) (h9 : Hp) (r9 : Int32) (z9 : Hp), rc 3 a0 a1 a2 h9 = some (r9, z9) → Ct x.2.1 yX10_readDeeper M_X10_readDeeper (some .boolean) D9 [.ref a0, .ref a1, .int a2] h9 0 0 (some (.int r9)) z9) (hF : Fin9 M_X10_readAny x (some .boolean) (some (.int r)) hz) : V M_X10_readAny x (D9 + 1) 57 [] [] h 0 0 := by
  unfold F_X10_readAny_b57 at e
  refine V_iconst (pc := 57) (v := (1 : Int32)) dX10_readAny_57 (by decide) ?_
  cases e
  exact V_zret (pc := 58) dX10_readAny_58 rfl hF
set_option maxRecDepth 100000 in
def F_X10_readAny_b0 (rc : Nat → Nat → Nat → Int32 → Hp → Option (Int32 × Hp)) (v0 : Nat) (v1 : Nat) (v2 : Int32) (h : Hp) : Option (Int32 × Hp) :=
  ob2 (rc 1 v0 v1 v2 h) fun r2 h3 => gd (decide (kd h v0 = 9)) <| (if r2 = 0 then some ((0 : Int32), h3) else ob (iter (fun z : Int32 × Hp => F_X10_readAny_l13 rc v0 v1 v2 z.1 z.2) FU ((0 : Int32), h3)) (fun z => sm z (fun h22 => F_X10_readAny_b57 rc h22) (fun h23 => some ((0 : Int32), h23))))
set_option maxHeartbeats 4000000 in
set_option maxRecDepth 100000 in
theorem r_X10_readAny_b0 (rc : Nat → Nat → Nat → Int32 → Hp → Option (Int32 × Hp)) (v0 : Nat) (v1 : Nat) (v2 : Int32) (h : Hp) {x : Cx} {r : Int32} {hz : Hp} (e : F_X10_readAny_b0 rc v0 v1 v2 h = some (r, hz)) {D9 : Nat} (hD9 : 20 ≤ D9) (hrc0 : ∀ (a0 : Nat) (a1 : Nat) (a2 : Int32) (h9 : Hp) (r9 : Int32) (z9 : Hp), rc 0 a0 a1 a2 h9 = some (r9, z9) → Ct x.2.1 yX10_readAny M_X10_readAny (some .boolean) D9 [.ref a0, .ref a1, .int a2] h9 0 0 (some (.int r9)) z9) (hrc1 : ∀ (a0 : Nat) (a1 : Nat) (a2 : Int32) (h9 : Hp) (r9 : Int32) (z9 : Hp), rc 1 a0 a1 a2 h9 = some (r9, z9) → Ct x.2.1 yX10_readEach M_X10_readEach (some .boolean) D9 [.ref a0, .ref a1, .int a2] h9 0 0 (some (.int r9)) z9) (hrc2 : ∀ (a0 : Nat) (a1 : Nat) (a2 : Int32) (h9 : Hp) (r9 : Int32) (z9 : Hp), rc 2 a0 a1 a2 h9 = some (r9, z9) → Ct x.2.1 yX10_readAtom M_X10_readAtom (some .boolean) D9 [.ref a0, .ref a1, .int a2] h9 0 0 (some (.int r9)) z9) (hrc3 : ∀ (a0 : Nat) (a1 : Nat) (a2 : Int32) (h9 : Hp) (r9 : Int32) (z9 : Hp), rc 3 a0 a1 a2 h9 = some (r9, z9) → Ct x.2.1 yX10_readDeeper M_X10_readDeeper (some .boolean) D9 [.ref a0, .ref a1, .int a2] h9 0 0 (some (.int r9)) z9) (hF : Fin9 M_X10_readAny x (some .boolean) (some (.int r)) hz) : V M_X10_readAny x (D9 + 1) 0 [(0, .ref v0), (1, .ref v1), (2, .int v2)] [] h 0 0 := by
  unfold F_X10_readAny_b0 at e
  refine V_aload_n (pc := 0) (i := 0) dX10_readAny_0 rfl rfl ?_
  refine V_aload_n (pc := 1) (i := 1) dX10_readAny_1 rfl rfl ?_
  refine V_iload_n (pc := 2) (i := 2) dX10_readAny_2 rfl rfl ?_
  obtain ⟨r2, h3, g1, e⟩ := ob2_some e
  obtain ⟨g4, e⟩ := gd_some e
  refine V_callV (pc := 3) (bc := 0) (bs := 0) (mc := 0) (ms := 0) (st := []) (As := [.ref v1, .int v2]) (a := v0) (h' := h3) (r := some (.int r2)) dX10_readAny_3 ml_X10_47 (ci := 9) rfl (of_decide_eq_true g4) rfl rfl (Nat.le_of_ble_eq_true rfl) (d' := D9) (by omega) (hrc1 v0 v1 v2 h _ _ g1) ?_
  refine V_if_ne (pc := 6) (tgt := 11) dX10_readAny_6 (by decide) (fun c28 => ?_) (fun c28 => ?_)
  · rw [if_neg c28] at e
    refine V_pick [0, 1, 2] rfl ?_
    refine V_iconst (pc := 11) (v := (0 : Int32)) dX10_readAny_11 (by decide) ?_
    refine V_istore_n (pc := 12) (i := 3) (lv' := [(3, .int (0 : Int32)), (0, .ref v0), (1, .ref v1), (2, .int v2)]) dX10_readAny_12 rfl (by decide) rfl ?_
    refine V_pick [1, 2, 3, 0] rfl ?_
    obtain ⟨y24, g25, e⟩ := ob_some e
    refine iter_V (P := fun z : Int32 × Hp => V M_X10_readAny x (D9 + 1) 13 [(0, .ref v0), (1, .ref v1), (2, .int v2), (3, .int z.1)] [] z.2 0 0) (E := fun z => Sum.elim (fun z : Hp => V M_X10_readAny x (D9 + 1) 57 [] [] z 0 0) (fun z : Hp => V M_X10_readAny x (D9 + 1) 42 [] [] z 0 0) z) (fun z o e9 k1 k2 => r_X10_readAny_l13 rc v0 v1 v2 z.1 z.2 e9 hD9 hrc0 hrc1 hrc2 hrc3 (fun z hz9 => k1 z hz9) (fun z hz9 => k2 _ hz9) (fun z hz9 => k2 _ hz9)) _ _ _ g25 ?_
    clear g25
    rcases y24 with y26 | y27
    · obtain ⟨h22, rfl⟩ : ∃ q, q = y26 := ⟨_, rfl⟩
      replace e : (F_X10_readAny_b57 rc h22) = some (r, hz) := e
      show V M_X10_readAny x (D9 + 1) 57 [] [] h22 0 0
      exact V_pick [] rfl (r_X10_readAny_b57 rc h22 e hD9 hrc0 hrc1 hrc2 hrc3 hF)
    · obtain ⟨h23, rfl⟩ : ∃ q, q = y27 := ⟨_, rfl⟩
      replace e : (some ((0 : Int32), h23)) = some (r, hz) := e
      show V M_X10_readAny x (D9 + 1) 42 [] [] h23 0 0
      refine V_iconst (pc := 42) (v := (0 : Int32)) dX10_readAny_42 (by decide) ?_
      cases e
      exact V_zret (pc := 43) dX10_readAny_43 rfl hF
  · rw [if_pos c28] at e
    refine V_pick [] rfl ?_
    refine V_iconst (pc := 9) (v := (0 : Int32)) dX10_readAny_9 (by decide) ?_
    cases e
    exact V_zret (pc := 10) dX10_readAny_10 rfl hF
theorem dX10_readEach_0 : decode cX10_readEach 0 = .ok (.aload_n 0, 1) := by decide +kernel
theorem dX10_readEach_1 : decode cX10_readEach 1 = .ok (.aload_n 1, 1) := by decide +kernel
theorem dX10_readEach_2 : decode cX10_readEach 2 = .ok (.iload_n 2, 1) := by decide +kernel
theorem dX10_readEach_3 : decode cX10_readEach 3 = .ok (.invokevirtual 58, 3) := by decide +kernel
theorem dX10_readEach_6 : decode cX10_readEach 6 = .ok (.ifCond .ne 5, 3) := by decide +kernel
theorem dX10_readEach_9 : decode cX10_readEach 9 = .ok (.iconst 0, 1) := by decide +kernel
theorem dX10_readEach_10 : decode cX10_readEach 10 = .ok (.ireturn, 1) := by decide +kernel
theorem dX10_readEach_11 : decode cX10_readEach 11 = .ok (.iconst 0, 1) := by decide +kernel
theorem dX10_readEach_12 : decode cX10_readEach 12 = .ok (.istore_n 3, 1) := by decide +kernel
theorem dX10_readEach_13 : decode cX10_readEach 13 = .ok (.iload_n 3, 1) := by decide +kernel
theorem dX10_readEach_14 : decode cX10_readEach 14 = .ok (.sipush 400, 3) := by decide +kernel
theorem dX10_readEach_17 : decode cX10_readEach 17 = .ok (.if_icmp .ge 40, 3) := by decide +kernel
theorem dX10_readEach_20 : decode cX10_readEach 20 = .ok (.aload_n 1, 1) := by decide +kernel
theorem dX10_readEach_21 : decode cX10_readEach 21 = .ok (.ldc 61, 2) := by decide +kernel
theorem dX10_readEach_23 : decode cX10_readEach 23 = .ok (.invokevirtual 52, 3) := by decide +kernel
theorem dX10_readEach_26 : decode cX10_readEach 26 = .ok (.ifCond .eq 31, 3) := by decide +kernel
theorem dX10_readEach_29 : decode cX10_readEach 29 = .ok (.aload_n 1, 1) := by decide +kernel
theorem dX10_readEach_30 : decode cX10_readEach 30 = .ok (.invokevirtual 55, 3) := by decide +kernel
theorem dX10_readEach_33 : decode cX10_readEach 33 = .ok (.aload_n 0, 1) := by decide +kernel
theorem dX10_readEach_34 : decode cX10_readEach 34 = .ok (.aload_n 1, 1) := by decide +kernel
theorem dX10_readEach_35 : decode cX10_readEach 35 = .ok (.iload_n 2, 1) := by decide +kernel
theorem dX10_readEach_36 : decode cX10_readEach 36 = .ok (.invokevirtual 58, 3) := by decide +kernel
theorem dX10_readEach_39 : decode cX10_readEach 39 = .ok (.ifCond .ne 5, 3) := by decide +kernel
theorem dX10_readEach_42 : decode cX10_readEach 42 = .ok (.iconst 0, 1) := by decide +kernel
theorem dX10_readEach_43 : decode cX10_readEach 43 = .ok (.ireturn, 1) := by decide +kernel
theorem dX10_readEach_44 : decode cX10_readEach 44 = .ok (.aload_n 0, 1) := by decide +kernel
theorem dX10_readEach_45 : decode cX10_readEach 45 = .ok (.bipush (-4), 2) := by decide +kernel
theorem dX10_readEach_47 : decode cX10_readEach 47 = .ok (.invokevirtual 43, 3) := by decide +kernel
theorem dX10_readEach_50 : decode cX10_readEach 50 = .ok (.pop, 1) := by decide +kernel
theorem dX10_readEach_51 : decode cX10_readEach 51 = .ok (.iinc 3 1, 3) := by decide +kernel
theorem dX10_readEach_54 : decode cX10_readEach 54 = .ok (.goto (-41), 3) := by decide +kernel
theorem dX10_readEach_57 : decode cX10_readEach 57 = .ok (.iconst 1, 1) := by decide +kernel
theorem dX10_readEach_58 : decode cX10_readEach 58 = .ok (.ireturn, 1) := by decide +kernel
set_option maxRecDepth 100000 in
def F_X10_readEach_l13 (rc : Nat → Nat → Nat → Int32 → Hp → Option (Int32 × Hp)) (v0 : Nat) (v1 : Nat) (v2 : Int32) (v3 : Int32) (h : Hp) : Option ((Int32 × Hp) ⊕ (Hp ⊕ Hp)) :=
  (if (400 : Int32) ≤ v3 then some (.inr (.inl h)) else ob (F_X6_isWord v1 (24 : UInt32) h) fun r6 => gd (decide (kd h v1 = 6)) <| (if r6 = 0 then some (.inr (.inl h)) else ob2 (F_X6_lookAtNext v1 h) fun _ h10 => ob2 (rc 2 v0 v1 v2 h10) fun r12 h13 => gd (decide (kd h10 v0 = 9)) <| (if r12 = 0 then some (.inr (.inr h13)) else ob2 (F_X10_put v0 (-4 : Int32) h13) fun r16 h17 => gd (decide (kd h13 v0 = 9)) <| some (.inl (v3 + (1 : Int32), h17)))))
set_option maxHeartbeats 4000000 in
set_option maxRecDepth 100000 in
theorem r_X10_readEach_l13 (rc : Nat → Nat → Nat → Int32 → Hp → Option (Int32 × Hp)) (v0 : Nat) (v1 : Nat) (v2 : Int32) (v3 : Int32) (h : Hp) {x : Cx} {o : ((Int32 × Hp) ⊕ (Hp ⊕ Hp))} (e : F_X10_readEach_l13 rc v0 v1 v2 v3 h = some o) {D9 : Nat} (hD9 : 20 ≤ D9) (hrc0 : ∀ (a0 : Nat) (a1 : Nat) (a2 : Int32) (h9 : Hp) (r9 : Int32) (z9 : Hp), rc 0 a0 a1 a2 h9 = some (r9, z9) → Ct x.2.1 yX10_readAny M_X10_readAny (some .boolean) D9 [.ref a0, .ref a1, .int a2] h9 0 0 (some (.int r9)) z9) (hrc1 : ∀ (a0 : Nat) (a1 : Nat) (a2 : Int32) (h9 : Hp) (r9 : Int32) (z9 : Hp), rc 1 a0 a1 a2 h9 = some (r9, z9) → Ct x.2.1 yX10_readEach M_X10_readEach (some .boolean) D9 [.ref a0, .ref a1, .int a2] h9 0 0 (some (.int r9)) z9) (hrc2 : ∀ (a0 : Nat) (a1 : Nat) (a2 : Int32) (h9 : Hp) (r9 : Int32) (z9 : Hp), rc 2 a0 a1 a2 h9 = some (r9, z9) → Ct x.2.1 yX10_readAtom M_X10_readAtom (some .boolean) D9 [.ref a0, .ref a1, .int a2] h9 0 0 (some (.int r9)) z9) (hrc3 : ∀ (a0 : Nat) (a1 : Nat) (a2 : Int32) (h9 : Hp) (r9 : Int32) (z9 : Hp), rc 3 a0 a1 a2 h9 = some (r9, z9) → Ct x.2.1 yX10_readDeeper M_X10_readDeeper (some .boolean) D9 [.ref a0, .ref a1, .int a2] h9 0 0 (some (.int r9)) z9) (kI : ∀ z, o = .inl z → V M_X10_readEach x (D9 + 1) 13 [(0, .ref v0), (1, .ref v1), (2, .int v2), (3, .int z.1)] [] z.2 0 0) (kE57 : ∀ z : Hp, o = .inr (.inl z) → V M_X10_readEach x (D9 + 1) 57 [] [] z 0 0) (kE42 : ∀ z : Hp, o = .inr (.inr z) → V M_X10_readEach x (D9 + 1) 42 [] [] z 0 0) : V M_X10_readEach x (D9 + 1) 13 [(0, .ref v0), (1, .ref v1), (2, .int v2), (3, .int v3)] [] h 0 0 := by
  unfold F_X10_readEach_l13 at e
  refine V_iload_n (pc := 13) (i := 3) dX10_readEach_13 rfl rfl ?_
  refine V_sipush (pc := 14) (v := (400 : Int32)) dX10_readEach_14 (by decide) ?_
  refine V_icmp_ge (pc := 17) (tgt := 57) dX10_readEach_17 (by decide) (fun c21 => ?_) (fun c21 => ?_)
  · rw [if_pos c21] at e
    cases e
    exact V_pick [] rfl (kE57 h rfl)
  · rw [if_neg c21] at e
    refine V_pick [0, 1, 2, 3] rfl ?_
    refine V_aload_n (pc := 20) (i := 1) dX10_readEach_20 rfl rfl ?_
    refine V_ldcS (pc := 21) (j := 24) (u := (24 : UInt32)) dX10_readEach_21 rfl (by decide) ?_
    obtain ⟨r6, g5, e⟩ := ob_some e
    obtain ⟨g7, e⟩ := gd_some e
    refine V_callV (pc := 23) (bc := 0) (bs := 0) (mc := 0) (ms := 0) (st := []) (As := [.float (24 : UInt32)]) (a := v1) (h' := h) (r := some (.int r6)) dX10_readEach_23 ml_X10_52 (ci := 6) rfl (of_decide_eq_true g7) rfl rfl (Nat.le_of_ble_eq_true rfl) (d' := 4) (by omega) (c_X6_isWord (l := x.2.1) v1 (24 : UInt32) h g5) ?_
    refine V_if_eq (pc := 26) (tgt := 57) dX10_readEach_26 (by decide) (fun c20 => ?_) (fun c20 => ?_)
    · rw [if_pos c20] at e
      cases e
      exact V_pick [] rfl (kE57 h rfl)
    · rw [if_neg c20] at e
      refine V_pick [0, 1, 2, 3] rfl ?_
      refine V_aload_n (pc := 29) (i := 1) dX10_readEach_29 rfl rfl ?_
      obtain ⟨r9, h10, g8, e⟩ := ob2_some e
      refine V_callV (pc := 30) (bc := 0) (bs := 0) (mc := 0) (ms := 0) (st := []) (As := []) (a := v1) (h' := h10) (r := none) dX10_readEach_30 ml_X10_55 (ci := 6) rfl (of_decide_eq_true g7) rfl rfl (Nat.le_of_ble_eq_true rfl) (d' := 1) (by omega) (c_X6_lookAtNext (l := x.2.1) v1 h g8) ?_
      refine V_aload_n (pc := 33) (i := 0) dX10_readEach_33 rfl rfl ?_
      refine V_aload_n (pc := 34) (i := 1) dX10_readEach_34 rfl rfl ?_
      refine V_iload_n (pc := 35) (i := 2) dX10_readEach_35 rfl rfl ?_
      obtain ⟨r12, h13, g11, e⟩ := ob2_some e
      obtain ⟨g14, e⟩ := gd_some e
      refine V_callV (pc := 36) (bc := 0) (bs := 0) (mc := 0) (ms := 0) (st := []) (As := [.ref v1, .int v2]) (a := v0) (h' := h13) (r := some (.int r12)) dX10_readEach_36 ml_X10_58 (ci := 9) rfl (of_decide_eq_true g14) rfl rfl (Nat.le_of_ble_eq_true rfl) (d' := D9) (by omega) (hrc2 v0 v1 v2 h10 _ _ g11) ?_
      refine V_if_ne (pc := 39) (tgt := 44) dX10_readEach_39 (by decide) (fun c19 => ?_) (fun c19 => ?_)
      · rw [if_neg c19] at e
        refine V_pick [0, 1, 2, 3] rfl ?_
        refine V_aload_n (pc := 44) (i := 0) dX10_readEach_44 rfl rfl ?_
        refine V_bipush (pc := 45) (v := (-4 : Int32)) dX10_readEach_45 (by decide) ?_
        obtain ⟨r16, h17, g15, e⟩ := ob2_some e
        obtain ⟨g18, e⟩ := gd_some e
        refine V_callV (pc := 47) (bc := 0) (bs := 0) (mc := 0) (ms := 0) (st := []) (As := [.int (-4 : Int32)]) (a := v0) (h' := h17) (r := some (.int r16)) dX10_readEach_47 ml_X10_43 (ci := 9) rfl (of_decide_eq_true g18) rfl rfl (Nat.le_of_ble_eq_true rfl) (d' := 0) (by omega) (c_X10_put (l := x.2.1) v0 (-4 : Int32) h13 g15) ?_
        refine V_pop (pc := 50) dX10_readEach_50 rfl ?_
        refine V_iinc (pc := 51) (i := 3) (u := v3 + (1 : Int32)) (lv' := [(3, .int (v3 + (1 : Int32))), (0, .ref v0), (1, .ref v1), (2, .int v2)]) dX10_readEach_51 rfl rfl (by decide) rfl ?_
        refine V_goto (pc := 54) (tgt := 13) dX10_readEach_54 (by decide) ?_
        cases e
        exact V_pick [1, 2, 3, 0] rfl (kI (v3 + (1 : Int32), h17) rfl)
      · rw [if_pos c19] at e
        cases e
        exact V_pick [] rfl (kE42 h13 rfl)
set_option maxRecDepth 100000 in
def F_X10_readEach_b57 (rc : Nat → Nat → Nat → Int32 → Hp → Option (Int32 × Hp))  (h : Hp) : Option (Int32 × Hp) :=
  some ((1 : Int32), h)
set_option maxHeartbeats 4000000 in
set_option maxRecDepth 100000 in
theorem r_X10_readEach_b57 (rc : Nat → Nat → Nat → Int32 → Hp → Option (Int32 × Hp))  (h : Hp) {x : Cx} {r : Int32} {hz : Hp} (e : F_X10_readEach_b57 rc  h = some (r, hz)) {D9 : Nat} (hD9 : 20 ≤ D9) (hrc0 : ∀ (a0 : Nat) (a1 : Nat) (a2 : Int32) (h9 : Hp) (r9 : Int32) (z9 : Hp), rc 0 a0 a1 a2 h9 = some (r9, z9) → Ct x.2.1 yX10_readAny M_X10_readAny (some .boolean) D9 [.ref a0, .ref a1, .int a2] h9 0 0 (some (.int r9)) z9) (hrc1 : ∀ (a0 : Nat) (a1 : Nat) (a2 : Int32) (h9 : Hp) (r9 : Int32) (z9 : Hp), rc 1 a0 a1 a2 h9 = some (r9, z9) → Ct x.2.1 yX10_readEach M_X10_readEach (some .boolean) D9 [.ref a0, .ref a1, .int a2] h9 0 0 (some (.int r9)) z9) (hrc2 : ∀ (a0 : Nat) (a1 : Nat) (a2 : Int32) (h9 : Hp) (r9 : Int32) (z9 : Hp), rc 2 a0 a1 a2 h9 = some (r9, z9) → Ct x.2.1 yX10_readAtom M_X10_readAtom (some .boolean) D9 [.ref a0, .ref a1, .int a2] h9 0 0 (some (.int r9)) z9) (hrc3 : ∀ (a0 : Nat) (a1 : Nat) (a2 : Int32) (h9 : Hp) (r9 : Int32) (z9 : Hp), rc 3 a0 a1 a2 h9 = some (r9, z9) → Ct x.2.1 yX10_readDeeper M_X10_readDeeper (some .boolean) D9 [.ref a0, .ref a1, .int a2] h9 0 0 (some (.int r9)) z9) (hF : Fin9 M_X10_readEach x (some .boolean) (some (.int r)) hz) : V M_X10_readEach x (D9 + 1) 57 [] [] h 0 0 := by
  unfold F_X10_readEach_b57 at e
  refine V_iconst (pc := 57) (v := (1 : Int32)) dX10_readEach_57 (by decide) ?_
  cases e
  exact V_zret (pc := 58) dX10_readEach_58 rfl hF
set_option maxRecDepth 100000 in
def F_X10_readEach_b0 (rc : Nat → Nat → Nat → Int32 → Hp → Option (Int32 × Hp)) (v0 : Nat) (v1 : Nat) (v2 : Int32) (h : Hp) : Option (Int32 × Hp) :=
  ob2 (rc 2 v0 v1 v2 h) fun r2 h3 => gd (decide (kd h v0 = 9)) <| (if r2 = 0 then some ((0 : Int32), h3) else ob (iter (fun z : Int32 × Hp => F_X10_readEach_l13 rc v0 v1 v2 z.1 z.2) FU ((0 : Int32), h3)) (fun z => sm z (fun h22 => F_X10_readEach_b57 rc h22) (fun h23 => some ((0 : Int32), h23))))
set_option maxHeartbeats 4000000 in
set_option maxRecDepth 100000 in
theorem r_X10_readEach_b0 (rc : Nat → Nat → Nat → Int32 → Hp → Option (Int32 × Hp)) (v0 : Nat) (v1 : Nat) (v2 : Int32) (h : Hp) {x : Cx} {r : Int32} {hz : Hp} (e : F_X10_readEach_b0 rc v0 v1 v2 h = some (r, hz)) {D9 : Nat} (hD9 : 20 ≤ D9) (hrc0 : ∀ (a0 : Nat) (a1 : Nat) (a2 : Int32) (h9 : Hp) (r9 : Int32) (z9 : Hp), rc 0 a0 a1 a2 h9 = some (r9, z9) → Ct x.2.1 yX10_readAny M_X10_readAny (some .boolean) D9 [.ref a0, .ref a1, .int a2] h9 0 0 (some (.int r9)) z9) (hrc1 : ∀ (a0 : Nat) (a1 : Nat) (a2 : Int32) (h9 : Hp) (r9 : Int32) (z9 : Hp), rc 1 a0 a1 a2 h9 = some (r9, z9) → Ct x.2.1 yX10_readEach M_X10_readEach (some .boolean) D9 [.ref a0, .ref a1, .int a2] h9 0 0 (some (.int r9)) z9) (hrc2 : ∀ (a0 : Nat) (a1 : Nat) (a2 : Int32) (h9 : Hp) (r9 : Int32) (z9 : Hp), rc 2 a0 a1 a2 h9 = some (r9, z9) → Ct x.2.1 yX10_readAtom M_X10_readAtom (some .boolean) D9 [.ref a0, .ref a1, .int a2] h9 0 0 (some (.int r9)) z9) (hrc3 : ∀ (a0 : Nat) (a1 : Nat) (a2 : Int32) (h9 : Hp) (r9 : Int32) (z9 : Hp), rc 3 a0 a1 a2 h9 = some (r9, z9) → Ct x.2.1 yX10_readDeeper M_X10_readDeeper (some .boolean) D9 [.ref a0, .ref a1, .int a2] h9 0 0 (some (.int r9)) z9) (hF : Fin9 M_X10_readEach x (some .boolean) (some (.int r)) hz) : V M_X10_readEach x (D9 + 1) 0 [(0, .ref v0), (1, .ref v1), (2, .int v2)] [] h 0 0 := by
  unfold F_X10_readEach_b0 at e
  refine V_aload_n (pc := 0) (i := 0) dX10_readEach_0 rfl rfl ?_
  refine V_aload_n (pc := 1) (i := 1) dX10_readEach_1 rfl rfl ?_
  refine V_iload_n (pc := 2) (i := 2) dX10_readEach_2 rfl rfl ?_
  obtain ⟨r2, h3, g1, e⟩ := ob2_some e
  obtain ⟨g4, e⟩ := gd_some e
  refine V_callV (pc := 3) (bc := 0) (bs := 0) (mc := 0) (ms := 0) (st := []) (As := [.ref v1, .int v2]) (a := v0) (h' := h3) (r := some (.int r2)) dX10_readEach_3 ml_X10_58 (ci := 9) rfl (of_decide_eq_true g4) rfl rfl (Nat.le_of_ble_eq_true rfl) (d' := D9) (by omega) (hrc2 v0 v1 v2 h _ _ g1) ?_
  refine V_if_ne (pc := 6) (tgt := 11) dX10_readEach_6 (by decide) (fun c28 => ?_) (fun c28 => ?_)
  · rw [if_neg c28] at e
    refine V_pick [0, 1, 2] rfl ?_
    refine V_iconst (pc := 11) (v := (0 : Int32)) dX10_readEach_11 (by decide) ?_
    refine V_istore_n (pc := 12) (i := 3) (lv' := [(3, .int (0 : Int32)), (0, .ref v0), (1, .ref v1), (2, .int v2)]) dX10_readEach_12 rfl (by decide) rfl ?_
    refine V_pick [1, 2, 3, 0] rfl ?_
    obtain ⟨y24, g25, e⟩ := ob_some e
    refine iter_V (P := fun z : Int32 × Hp => V M_X10_readEach x (D9 + 1) 13 [(0, .ref v0), (1, .ref v1), (2, .int v2), (3, .int z.1)] [] z.2 0 0) (E := fun z => Sum.elim (fun z : Hp => V M_X10_readEach x (D9 + 1) 57 [] [] z 0 0) (fun z : Hp => V M_X10_readEach x (D9 + 1) 42 [] [] z 0 0) z) (fun z o e9 k1 k2 => r_X10_readEach_l13 rc v0 v1 v2 z.1 z.2 e9 hD9 hrc0 hrc1 hrc2 hrc3 (fun z hz9 => k1 z hz9) (fun z hz9 => k2 _ hz9) (fun z hz9 => k2 _ hz9)) _ _ _ g25 ?_
    clear g25
    rcases y24 with y26 | y27
    · obtain ⟨h22, rfl⟩ : ∃ q, q = y26 := ⟨_, rfl⟩
      replace e : (F_X10_readEach_b57 rc h22) = some (r, hz) := e
      show V M_X10_readEach x (D9 + 1) 57 [] [] h22 0 0
      exact V_pick [] rfl (r_X10_readEach_b57 rc h22 e hD9 hrc0 hrc1 hrc2 hrc3 hF)
    · obtain ⟨h23, rfl⟩ : ∃ q, q = y27 := ⟨_, rfl⟩
      replace e : (some ((0 : Int32), h23)) = some (r, hz) := e
      show V M_X10_readEach x (D9 + 1) 42 [] [] h23 0 0
      refine V_iconst (pc := 42) (v := (0 : Int32)) dX10_readEach_42 (by decide) ?_
      cases e
      exact V_zret (pc := 43) dX10_readEach_43 rfl hF
  · rw [if_pos c28] at e
    refine V_pick [] rfl ?_
    refine V_iconst (pc := 9) (v := (0 : Int32)) dX10_readEach_9 (by decide) ?_
    cases e
    exact V_zret (pc := 10) dX10_readEach_10 rfl hF
theorem dX10_readAtom_0 : decode cX10_readAtom 0 = .ok (.aload_n 1, 1) := by decide +kernel
theorem dX10_readAtom_1 : decode cX10_readAtom 1 = .ok (.ldc 63, 2) := by decide +kernel
theorem dX10_readAtom_3 : decode cX10_readAtom 3 = .ok (.invokevirtual 52, 3) := by decide +kernel
theorem dX10_readAtom_6 : decode cX10_readAtom 6 = .ok (.ifCond .ne 12, 3) := by decide +kernel
theorem dX10_readAtom_9 : decode cX10_readAtom 9 = .ok (.aload_n 1, 1) := by decide +kernel
theorem dX10_readAtom_10 : decode cX10_readAtom 10 = .ok (.bipush 40, 2) := by decide +kernel
theorem dX10_readAtom_12 : decode cX10_readAtom 12 = .ok (.invokevirtual 65, 3) := by decide +kernel
theorem dX10_readAtom_15 : decode cX10_readAtom 15 = .ok (.ifCond .eq 25, 3) := by decide +kernel
theorem dX10_readAtom_18 : decode cX10_readAtom 18 = .ok (.iload_n 2, 1) := by decide +kernel
theorem dX10_readAtom_19 : decode cX10_readAtom 19 = .ok (.bipush 6, 2) := by decide +kernel
theorem dX10_readAtom_21 : decode cX10_readAtom 21 = .ok (.if_icmp .ge 14, 3) := by decide +kernel
theorem dX10_readAtom_24 : decode cX10_readAtom 24 = .ok (.aload_n 0, 1) := by decide +kernel
theorem dX10_readAtom_25 : decode cX10_readAtom 25 = .ok (.aload_n 1, 1) := by decide +kernel
theorem dX10_readAtom_26 : decode cX10_readAtom 26 = .ok (.iload_n 2, 1) := by decide +kernel
theorem dX10_readAtom_27 : decode cX10_readAtom 27 = .ok (.iconst 1, 1) := by decide +kernel
theorem dX10_readAtom_28 : decode cX10_readAtom 28 = .ok (.iadd, 1) := by decide +kernel
theorem dX10_readAtom_29 : decode cX10_readAtom 29 = .ok (.invokevirtual 69, 3) := by decide +kernel
theorem dX10_readAtom_32 : decode cX10_readAtom 32 = .ok (.goto 7, 3) := by decide +kernel
theorem dX10_readAtom_35 : decode cX10_readAtom 35 = .ok (.aload_n 1, 1) := by decide +kernel
theorem dX10_readAtom_36 : decode cX10_readAtom 36 = .ok (.invokevirtual 72, 3) := by decide +kernel
theorem dX10_readAtom_39 : decode cX10_readAtom 39 = .ok (.ireturn, 1) := by decide +kernel
theorem dX10_readAtom_40 : decode cX10_readAtom 40 = .ok (.aload_n 1, 1) := by decide +kernel
theorem dX10_readAtom_41 : decode cX10_readAtom 41 = .ok (.ldc 76, 2) := by decide +kernel
theorem dX10_readAtom_43 : decode cX10_readAtom 43 = .ok (.invokevirtual 52, 3) := by decide +kernel
theorem dX10_readAtom_46 : decode cX10_readAtom 46 = .ok (.ifCond .eq 14, 3) := by decide +kernel
theorem dX10_readAtom_49 : decode cX10_readAtom 49 = .ok (.aload_n 1, 1) := by decide +kernel
theorem dX10_readAtom_50 : decode cX10_readAtom 50 = .ok (.invokevirtual 55, 3) := by decide +kernel
theorem dX10_readAtom_53 : decode cX10_readAtom 53 = .ok (.aload_n 0, 1) := by decide +kernel
theorem dX10_readAtom_54 : decode cX10_readAtom 54 = .ok (.bipush (-8), 2) := by decide +kernel
theorem dX10_readAtom_56 : decode cX10_readAtom 56 = .ok (.invokevirtual 43, 3) := by decide +kernel
theorem dX10_readAtom_59 : decode cX10_readAtom 59 = .ok (.ireturn, 1) := by decide +kernel
theorem dX10_readAtom_60 : decode cX10_readAtom 60 = .ok (.aload_n 1, 1) := by decide +kernel
theorem dX10_readAtom_61 : decode cX10_readAtom 61 = .ok (.ldc 78, 2) := by decide +kernel
theorem dX10_readAtom_63 : decode cX10_readAtom 63 = .ok (.invokevirtual 52, 3) := by decide +kernel
theorem dX10_readAtom_66 : decode cX10_readAtom 66 = .ok (.ifCond .eq 14, 3) := by decide +kernel
theorem dX10_readAtom_69 : decode cX10_readAtom 69 = .ok (.aload_n 1, 1) := by decide +kernel
theorem dX10_readAtom_70 : decode cX10_readAtom 70 = .ok (.invokevirtual 55, 3) := by decide +kernel
theorem dX10_readAtom_73 : decode cX10_readAtom 73 = .ok (.aload_n 0, 1) := by decide +kernel
theorem dX10_readAtom_74 : decode cX10_readAtom 74 = .ok (.bipush (-9), 2) := by decide +kernel
theorem dX10_readAtom_76 : decode cX10_readAtom 76 = .ok (.invokevirtual 43, 3) := by decide +kernel
theorem dX10_readAtom_79 : decode cX10_readAtom 79 = .ok (.ireturn, 1) := by decide +kernel
theorem dX10_readAtom_80 : decode cX10_readAtom 80 = .ok (.aload_n 1, 1) := by decide +kernel
theorem dX10_readAtom_81 : decode cX10_readAtom 81 = .ok (.ldc 80, 2) := by decide +kernel
theorem dX10_readAtom_83 : decode cX10_readAtom 83 = .ok (.invokevirtual 52, 3) := by decide +kernel
theorem dX10_readAtom_86 : decode cX10_readAtom 86 = .ok (.ifCond .eq 36, 3) := by decide +kernel
theorem dX10_readAtom_89 : decode cX10_readAtom 89 = .ok (.aload_n 1, 1) := by decide +kernel
theorem dX10_readAtom_90 : decode cX10_readAtom 90 = .ok (.invokevirtual 55, 3) := by decide +kernel
theorem dX10_readAtom_93 : decode cX10_readAtom 93 = .ok (.aload_n 1, 1) := by decide +kernel
theorem dX10_readAtom_94 : decode cX10_readAtom 94 = .ok (.iconst 0, 1) := by decide +kernel
theorem dX10_readAtom_95 : decode cX10_readAtom 95 = .ok (.iconst 4, 1) := by decide +kernel
theorem dX10_readAtom_96 : decode cX10_readAtom 96 = .ok (.invokevirtual 82, 3) := by decide +kernel
theorem dX10_readAtom_99 : decode cX10_readAtom 99 = .ok (.ifCond .eq 21, 3) := by decide +kernel
theorem dX10_readAtom_102 : decode cX10_readAtom 102 = .ok (.aload_n 0, 1) := by decide +kernel
theorem dX10_readAtom_103 : decode cX10_readAtom 103 = .ok (.bipush (-16), 2) := by decide +kernel
theorem dX10_readAtom_105 : decode cX10_readAtom 105 = .ok (.aload_n 1, 1) := by decide +kernel
theorem dX10_readAtom_106 : decode cX10_readAtom 106 = .ok (.getfield 86, 3) := by decide +kernel
theorem dX10_readAtom_109 : decode cX10_readAtom 109 = .ok (.isub, 1) := by decide +kernel
theorem dX10_readAtom_110 : decode cX10_readAtom 110 = .ok (.invokevirtual 43, 3) := by decide +kernel
theorem dX10_readAtom_113 : decode cX10_readAtom 113 = .ok (.ifCond .eq 7, 3) := by decide +kernel
theorem dX10_readAtom_116 : decode cX10_readAtom 116 = .ok (.iconst 1, 1) := by decide +kernel
theorem dX10_readAtom_117 : decode cX10_readAtom 117 = .ok (.goto 4, 3) := by decide +kernel
theorem dX10_readAtom_120 : decode cX10_readAtom 120 = .ok (.iconst 0, 1) := by decide +kernel
theorem dX10_readAtom_121 : decode cX10_readAtom 121 = .ok (.ireturn, 1) := by decide +kernel
theorem dX10_readAtom_122 : decode cX10_readAtom 122 = .ok (.aload_n 0, 1) := by decide +kernel
theorem dX10_readAtom_123 : decode cX10_readAtom 123 = .ok (.aload_n 1, 1) := by decide +kernel
theorem dX10_readAtom_124 : decode cX10_readAtom 124 = .ok (.invokevirtual 89, 3) := by decide +kernel
theorem dX10_readAtom_127 : decode cX10_readAtom 127 = .ok (.ireturn, 1) := by decide +kernel
set_option maxRecDepth 100000 in
def F_X10_readAtom_b39 (rc : Nat → Nat → Nat → Int32 → Hp → Option (Int32 × Hp)) (t0 : Int32) (h : Hp) : Option (Int32 × Hp) :=
  gd (decide (t0 = 0 ∨ t0 = 1)) <| some (t0, h)
set_option maxHeartbeats 4000000 in
set_option maxRecDepth 100000 in
theorem r_X10_readAtom_b39 (rc : Nat → Nat → Nat → Int32 → Hp → Option (Int32 × Hp)) (t0 : Int32) (h : Hp) {x : Cx} {r : Int32} {hz : Hp} (e : F_X10_readAtom_b39 rc t0 h = some (r, hz)) {D9 : Nat} (hD9 : 20 ≤ D9) (hrc0 : ∀ (a0 : Nat) (a1 : Nat) (a2 : Int32) (h9 : Hp) (r9 : Int32) (z9 : Hp), rc 0 a0 a1 a2 h9 = some (r9, z9) → Ct x.2.1 yX10_readAny M_X10_readAny (some .boolean) D9 [.ref a0, .ref a1, .int a2] h9 0 0 (some (.int r9)) z9) (hrc1 : ∀ (a0 : Nat) (a1 : Nat) (a2 : Int32) (h9 : Hp) (r9 : Int32) (z9 : Hp), rc 1 a0 a1 a2 h9 = some (r9, z9) → Ct x.2.1 yX10_readEach M_X10_readEach (some .boolean) D9 [.ref a0, .ref a1, .int a2] h9 0 0 (some (.int r9)) z9) (hrc2 : ∀ (a0 : Nat) (a1 : Nat) (a2 : Int32) (h9 : Hp) (r9 : Int32) (z9 : Hp), rc 2 a0 a1 a2 h9 = some (r9, z9) → Ct x.2.1 yX10_readAtom M_X10_readAtom (some .boolean) D9 [.ref a0, .ref a1, .int a2] h9 0 0 (some (.int r9)) z9) (hrc3 : ∀ (a0 : Nat) (a1 : Nat) (a2 : Int32) (h9 : Hp) (r9 : Int32) (z9 : Hp), rc 3 a0 a1 a2 h9 = some (r9, z9) → Ct x.2.1 yX10_readDeeper M_X10_readDeeper (some .boolean) D9 [.ref a0, .ref a1, .int a2] h9 0 0 (some (.int r9)) z9) (hF : Fin9 M_X10_readAtom x (some .boolean) (some (.int r)) hz) : V M_X10_readAtom x (D9 + 1) 39 [] [.int t0] h 0 0 := by
  unfold F_X10_readAtom_b39 at e
  obtain ⟨g8, e⟩ := gd_some e
  cases e
  exact V_zret (pc := 39) dX10_readAtom_39 (z01 (of_decide_eq_true g8)) hF
set_option maxRecDepth 100000 in
def F_X10_readAtom_b18 (rc : Nat → Nat → Nat → Int32 → Hp → Option (Int32 × Hp)) (v0 : Nat) (v1 : Nat) (v2 : Int32) (h : Hp) : Option (Int32 × Hp) :=
  (if (6 : Int32) ≤ v2 then ob2 (F_X6_refuse v1 h) fun r5 h6 => gd (decide (kd h v1 = 6)) <| F_X10_readAtom_b39 rc r5 h6 else ob2 (rc 3 v0 v1 (v2 + (1 : Int32)) h) fun r10 h11 => gd (decide (kd h v0 = 9)) <| F_X10_readAtom_b39 rc r10 h11)
set_option maxHeartbeats 4000000 in
set_option maxRecDepth 100000 in
theorem r_X10_readAtom_b18 (rc : Nat → Nat → Nat → Int32 → Hp → Option (Int32 × Hp)) (v0 : Nat) (v1 : Nat) (v2 : Int32) (h : Hp) {x : Cx} {r : Int32} {hz : Hp} (e : F_X10_readAtom_b18 rc v0 v1 v2 h = some (r, hz)) {D9 : Nat} (hD9 : 20 ≤ D9) (hrc0 : ∀ (a0 : Nat) (a1 : Nat) (a2 : Int32) (h9 : Hp) (r9 : Int32) (z9 : Hp), rc 0 a0 a1 a2 h9 = some (r9, z9) → Ct x.2.1 yX10_readAny M_X10_readAny (some .boolean) D9 [.ref a0, .ref a1, .int a2] h9 0 0 (some (.int r9)) z9) (hrc1 : ∀ (a0 : Nat) (a1 : Nat) (a2 : Int32) (h9 : Hp) (r9 : Int32) (z9 : Hp), rc 1 a0 a1 a2 h9 = some (r9, z9) → Ct x.2.1 yX10_readEach M_X10_readEach (some .boolean) D9 [.ref a0, .ref a1, .int a2] h9 0 0 (some (.int r9)) z9) (hrc2 : ∀ (a0 : Nat) (a1 : Nat) (a2 : Int32) (h9 : Hp) (r9 : Int32) (z9 : Hp), rc 2 a0 a1 a2 h9 = some (r9, z9) → Ct x.2.1 yX10_readAtom M_X10_readAtom (some .boolean) D9 [.ref a0, .ref a1, .int a2] h9 0 0 (some (.int r9)) z9) (hrc3 : ∀ (a0 : Nat) (a1 : Nat) (a2 : Int32) (h9 : Hp) (r9 : Int32) (z9 : Hp), rc 3 a0 a1 a2 h9 = some (r9, z9) → Ct x.2.1 yX10_readDeeper M_X10_readDeeper (some .boolean) D9 [.ref a0, .ref a1, .int a2] h9 0 0 (some (.int r9)) z9) (hF : Fin9 M_X10_readAtom x (some .boolean) (some (.int r)) hz) : V M_X10_readAtom x (D9 + 1) 18 [(0, .ref v0), (1, .ref v1), (2, .int v2)] [] h 0 0 := by
  unfold F_X10_readAtom_b18 at e
  refine V_iload_n (pc := 18) (i := 2) dX10_readAtom_18 rfl rfl ?_
  refine V_bipush (pc := 19) (v := (6 : Int32)) dX10_readAtom_19 (by decide) ?_
  refine V_icmp_ge (pc := 21) (tgt := 35) dX10_readAtom_21 (by decide) (fun c13 => ?_) (fun c13 => ?_)
  · rw [if_pos c13] at e
    refine V_pick [1] rfl ?_
    refine V_aload_n (pc := 35) (i := 1) dX10_readAtom_35 rfl rfl ?_
    obtain ⟨r5, h6, g4, e⟩ := ob2_some e
    obtain ⟨g7, e⟩ := gd_some e
    refine V_callV (pc := 36) (bc := 0) (bs := 0) (mc := 0) (ms := 0) (st := []) (As := []) (a := v1) (h' := h6) (r := some (.int r5)) dX10_readAtom_36 ml_X10_72 (ci := 6) rfl (of_decide_eq_true g7) rfl rfl (Nat.le_of_ble_eq_true rfl) (d' := 0) (by omega) (c_X6_refuse (l := x.2.1) v1 h g4) ?_
    exact V_pick [] rfl (r_X10_readAtom_b39 rc r5 h6 e hD9 hrc0 hrc1 hrc2 hrc3 hF)
  · rw [if_neg c13] at e
    refine V_pick [0, 1, 2] rfl ?_
    refine V_aload_n (pc := 24) (i := 0) dX10_readAtom_24 rfl rfl ?_
    refine V_aload_n (pc := 25) (i := 1) dX10_readAtom_25 rfl rfl ?_
    refine V_iload_n (pc := 26) (i := 2) dX10_readAtom_26 rfl rfl ?_
    refine V_iconst (pc := 27) (v := (1 : Int32)) dX10_readAtom_27 (by decide) ?_
    refine V_iadd (pc := 28) dX10_readAtom_28 ?_
    obtain ⟨r10, h11, g9, e⟩ := ob2_some e
    obtain ⟨g12, e⟩ := gd_some e
    refine V_callV (pc := 29) (bc := 0) (bs := 0) (mc := 0) (ms := 0) (st := []) (As := [.ref v1, .int (v2 + (1 : Int32))]) (a := v0) (h' := h11) (r := some (.int r10)) dX10_readAtom_29 ml_X10_69 (ci := 9) rfl (of_decide_eq_true g12) rfl rfl (Nat.le_of_ble_eq_true rfl) (d' := D9) (by omega) (hrc3 v0 v1 (v2 + (1 : Int32)) h _ _ g9) ?_
    refine V_goto (pc := 32) (tgt := 39) dX10_readAtom_32 (by decide) ?_
    exact V_pick [] rfl (r_X10_readAtom_b39 rc r10 h11 e hD9 hrc0 hrc1 hrc2 hrc3 hF)
set_option maxRecDepth 100000 in
def F_X10_readAtom_b121 (rc : Nat → Nat → Nat → Int32 → Hp → Option (Int32 × Hp)) (t0 : Int32) (h : Hp) : Option (Int32 × Hp) :=
  gd (decide (t0 = 0 ∨ t0 = 1)) <| some (t0, h)
set_option maxHeartbeats 4000000 in
set_option maxRecDepth 100000 in
theorem r_X10_readAtom_b121 (rc : Nat → Nat → Nat → Int32 → Hp → Option (Int32 × Hp)) (t0 : Int32) (h : Hp) {x : Cx} {r : Int32} {hz : Hp} (e : F_X10_readAtom_b121 rc t0 h = some (r, hz)) {D9 : Nat} (hD9 : 20 ≤ D9) (hrc0 : ∀ (a0 : Nat) (a1 : Nat) (a2 : Int32) (h9 : Hp) (r9 : Int32) (z9 : Hp), rc 0 a0 a1 a2 h9 = some (r9, z9) → Ct x.2.1 yX10_readAny M_X10_readAny (some .boolean) D9 [.ref a0, .ref a1, .int a2] h9 0 0 (some (.int r9)) z9) (hrc1 : ∀ (a0 : Nat) (a1 : Nat) (a2 : Int32) (h9 : Hp) (r9 : Int32) (z9 : Hp), rc 1 a0 a1 a2 h9 = some (r9, z9) → Ct x.2.1 yX10_readEach M_X10_readEach (some .boolean) D9 [.ref a0, .ref a1, .int a2] h9 0 0 (some (.int r9)) z9) (hrc2 : ∀ (a0 : Nat) (a1 : Nat) (a2 : Int32) (h9 : Hp) (r9 : Int32) (z9 : Hp), rc 2 a0 a1 a2 h9 = some (r9, z9) → Ct x.2.1 yX10_readAtom M_X10_readAtom (some .boolean) D9 [.ref a0, .ref a1, .int a2] h9 0 0 (some (.int r9)) z9) (hrc3 : ∀ (a0 : Nat) (a1 : Nat) (a2 : Int32) (h9 : Hp) (r9 : Int32) (z9 : Hp), rc 3 a0 a1 a2 h9 = some (r9, z9) → Ct x.2.1 yX10_readDeeper M_X10_readDeeper (some .boolean) D9 [.ref a0, .ref a1, .int a2] h9 0 0 (some (.int r9)) z9) (hF : Fin9 M_X10_readAtom x (some .boolean) (some (.int r)) hz) : V M_X10_readAtom x (D9 + 1) 121 [] [.int t0] h 0 0 := by
  unfold F_X10_readAtom_b121 at e
  obtain ⟨g34, e⟩ := gd_some e
  cases e
  exact V_zret (pc := 121) dX10_readAtom_121 (z01 (of_decide_eq_true g34)) hF
set_option maxRecDepth 100000 in
def F_X10_readAtom_b120 (rc : Nat → Nat → Nat → Int32 → Hp → Option (Int32 × Hp))  (h : Hp) : Option (Int32 × Hp) :=
  F_X10_readAtom_b121 rc (0 : Int32) h
set_option maxHeartbeats 4000000 in
set_option maxRecDepth 100000 in
theorem r_X10_readAtom_b120 (rc : Nat → Nat → Nat → Int32 → Hp → Option (Int32 × Hp))  (h : Hp) {x : Cx} {r : Int32} {hz : Hp} (e : F_X10_readAtom_b120 rc  h = some (r, hz)) {D9 : Nat} (hD9 : 20 ≤ D9) (hrc0 : ∀ (a0 : Nat) (a1 : Nat) (a2 : Int32) (h9 : Hp) (r9 : Int32) (z9 : Hp), rc 0 a0 a1 a2 h9 = some (r9, z9) → Ct x.2.1 yX10_readAny M_X10_readAny (some .boolean) D9 [.ref a0, .ref a1, .int a2] h9 0 0 (some (.int r9)) z9) (hrc1 : ∀ (a0 : Nat) (a1 : Nat) (a2 : Int32) (h9 : Hp) (r9 : Int32) (z9 : Hp), rc 1 a0 a1 a2 h9 = some (r9, z9) → Ct x.2.1 yX10_readEach M_X10_readEach (some .boolean) D9 [.ref a0, .ref a1, .int a2] h9 0 0 (some (.int r9)) z9) (hrc2 : ∀ (a0 : Nat) (a1 : Nat) (a2 : Int32) (h9 : Hp) (r9 : Int32) (z9 : Hp), rc 2 a0 a1 a2 h9 = some (r9, z9) → Ct x.2.1 yX10_readAtom M_X10_readAtom (some .boolean) D9 [.ref a0, .ref a1, .int a2] h9 0 0 (some (.int r9)) z9) (hrc3 : ∀ (a0 : Nat) (a1 : Nat) (a2 : Int32) (h9 : Hp) (r9 : Int32) (z9 : Hp), rc 3 a0 a1 a2 h9 = some (r9, z9) → Ct x.2.1 yX10_readDeeper M_X10_readDeeper (some .boolean) D9 [.ref a0, .ref a1, .int a2] h9 0 0 (some (.int r9)) z9) (hF : Fin9 M_X10_readAtom x (some .boolean) (some (.int r)) hz) : V M_X10_readAtom x (D9 + 1) 120 [] [] h 0 0 := by
  unfold F_X10_readAtom_b120 at e
  refine V_iconst (pc := 120) (v := (0 : Int32)) dX10_readAtom_120 (by decide) ?_
  exact V_pick [] rfl (r_X10_readAtom_b121 rc (0 : Int32) h e hD9 hrc0 hrc1 hrc2 hrc3 hF)
set_option maxRecDepth 100000 in
def F_X10_readAtom_b0 (rc : Nat → Nat → Nat → Int32 → Hp → Option (Int32 × Hp)) (v0 : Nat) (v1 : Nat) (v2 : Int32) (h : Hp) : Option (Int32 × Hp) :=
  ob (F_X6_isWord v1 (14 : UInt32) h) fun r2 => gd (decide (kd h v1 = 6)) <| (if r2 = 0 then ob (F_X6_isSign v1 (40 : Int32) h) fun r15 => (if r15 = 0 then ob (F_X6_isWord v1 (15 : UInt32) h) fun r17 => (if r17 = 0 then ob (F_X6_isWord v1 (16 : UInt32) h) fun r19 => (if r19 = 0 then ob (F_X6_isWord v1 (17 : UInt32) h) fun r21 => (if r21 = 0 then ob2 (F_X10_readComparison v0 v1 h) fun r23 h24 => gd (decide (kd h v0 = 9)) <| gd (decide (r23 = 0 ∨ r23 = 1)) <| some (r23, h24) else ob2 (F_X6_lookAtNext v1 h) fun _ h29 => ob2 (F_X6_takeNumber v1 (0 : Int32) (4 : Int32) h29) fun r31 h32 => gd (decide (kd h29 v1 = 6)) <| (if r31 = 0 then F_X10_readAtom_b120 rc h32 else gd (decide (kd h32 v1 = 6)) <| ob2 (F_X10_put v0 ((-16 : Int32) - (zI h32 v1 5)) h32) fun r37 h38 => gd (decide (kd h32 v0 = 9)) <| (if r37 = 0 then F_X10_readAtom_b120 rc h38 else F_X10_readAtom_b121 rc (1 : Int32) h38))) else ob2 (F_X6_lookAtNext v1 h) fun _ h45 => ob2 (F_X10_put v0 (-9 : Int32) h45) fun r47 h48 => gd (decide (kd h45 v0 = 9)) <| gd (decide (r47 = 0 ∨ r47 = 1)) <| some (r47, h48)) else ob2 (F_X6_lookAtNext v1 h) fun _ h54 => ob2 (F_X10_put v0 (-8 : Int32) h54) fun r56 h57 => gd (decide (kd h54 v0 = 9)) <| gd (decide (r56 = 0 ∨ r56 = 1)) <| some (r56, h57)) else F_X10_readAtom_b18 rc v0 v1 v2 h) else F_X10_readAtom_b18 rc v0 v1 v2 h)
set_option maxHeartbeats 4000000 in
set_option maxRecDepth 100000 in
theorem r_X10_readAtom_b0 (rc : Nat → Nat → Nat → Int32 → Hp → Option (Int32 × Hp)) (v0 : Nat) (v1 : Nat) (v2 : Int32) (h : Hp) {x : Cx} {r : Int32} {hz : Hp} (e : F_X10_readAtom_b0 rc v0 v1 v2 h = some (r, hz)) {D9 : Nat} (hD9 : 20 ≤ D9) (hrc0 : ∀ (a0 : Nat) (a1 : Nat) (a2 : Int32) (h9 : Hp) (r9 : Int32) (z9 : Hp), rc 0 a0 a1 a2 h9 = some (r9, z9) → Ct x.2.1 yX10_readAny M_X10_readAny (some .boolean) D9 [.ref a0, .ref a1, .int a2] h9 0 0 (some (.int r9)) z9) (hrc1 : ∀ (a0 : Nat) (a1 : Nat) (a2 : Int32) (h9 : Hp) (r9 : Int32) (z9 : Hp), rc 1 a0 a1 a2 h9 = some (r9, z9) → Ct x.2.1 yX10_readEach M_X10_readEach (some .boolean) D9 [.ref a0, .ref a1, .int a2] h9 0 0 (some (.int r9)) z9) (hrc2 : ∀ (a0 : Nat) (a1 : Nat) (a2 : Int32) (h9 : Hp) (r9 : Int32) (z9 : Hp), rc 2 a0 a1 a2 h9 = some (r9, z9) → Ct x.2.1 yX10_readAtom M_X10_readAtom (some .boolean) D9 [.ref a0, .ref a1, .int a2] h9 0 0 (some (.int r9)) z9) (hrc3 : ∀ (a0 : Nat) (a1 : Nat) (a2 : Int32) (h9 : Hp) (r9 : Int32) (z9 : Hp), rc 3 a0 a1 a2 h9 = some (r9, z9) → Ct x.2.1 yX10_readDeeper M_X10_readDeeper (some .boolean) D9 [.ref a0, .ref a1, .int a2] h9 0 0 (some (.int r9)) z9) (hF : Fin9 M_X10_readAtom x (some .boolean) (some (.int r)) hz) : V M_X10_readAtom x (D9 + 1) 0 [(0, .ref v0), (1, .ref v1), (2, .int v2)] [] h 0 0 := by
  unfold F_X10_readAtom_b0 at e
  refine V_aload_n (pc := 0) (i := 1) dX10_readAtom_0 rfl rfl ?_
  refine V_ldcS (pc := 1) (j := 14) (u := (14 : UInt32)) dX10_readAtom_1 rfl (by decide) ?_
  obtain ⟨r2, g1, e⟩ := ob_some e
  obtain ⟨g3, e⟩ := gd_some e
  refine V_callV (pc := 3) (bc := 0) (bs := 0) (mc := 0) (ms := 0) (st := []) (As := [.float (14 : UInt32)]) (a := v1) (h' := h) (r := some (.int r2)) dX10_readAtom_3 ml_X10_52 (ci := 6) rfl (of_decide_eq_true g3) rfl rfl (Nat.le_of_ble_eq_true rfl) (d' := 4) (by omega) (c_X6_isWord (l := x.2.1) v1 (14 : UInt32) h g1) ?_
  refine V_if_ne (pc := 6) (tgt := 18) dX10_readAtom_6 (by decide) (fun c62 => ?_) (fun c62 => ?_)
  · rw [if_neg c62] at e
    exact V_pick [0, 1, 2] rfl (r_X10_readAtom_b18 rc v0 v1 v2 h e hD9 hrc0 hrc1 hrc2 hrc3 hF)
  · rw [if_pos c62] at e
    refine V_pick [0, 1, 2] rfl ?_
    refine V_aload_n (pc := 9) (i := 1) dX10_readAtom_9 rfl rfl ?_
    refine V_bipush (pc := 10) (v := (40 : Int32)) dX10_readAtom_10 (by decide) ?_
    obtain ⟨r15, g14, e⟩ := ob_some e
    refine V_callV (pc := 12) (bc := 0) (bs := 0) (mc := 0) (ms := 0) (st := []) (As := [.int (40 : Int32)]) (a := v1) (h' := h) (r := some (.int r15)) dX10_readAtom_12 ml_X10_65 (ci := 6) rfl (of_decide_eq_true g3) rfl rfl (Nat.le_of_ble_eq_true rfl) (d' := 0) (by omega) (c_X6_isSign (l := x.2.1) v1 (40 : Int32) h g14) ?_
    refine V_if_eq (pc := 15) (tgt := 40) dX10_readAtom_15 (by decide) (fun c61 => ?_) (fun c61 => ?_)
    · rw [if_pos c61] at e
      refine V_pick [0, 1] rfl ?_
      refine V_aload_n (pc := 40) (i := 1) dX10_readAtom_40 rfl rfl ?_
      refine V_ldcS (pc := 41) (j := 15) (u := (15 : UInt32)) dX10_readAtom_41 rfl (by decide) ?_
      obtain ⟨r17, g16, e⟩ := ob_some e
      refine V_callV (pc := 43) (bc := 0) (bs := 0) (mc := 0) (ms := 0) (st := []) (As := [.float (15 : UInt32)]) (a := v1) (h' := h) (r := some (.int r17)) dX10_readAtom_43 ml_X10_52 (ci := 6) rfl (of_decide_eq_true g3) rfl rfl (Nat.le_of_ble_eq_true rfl) (d' := 4) (by omega) (c_X6_isWord (l := x.2.1) v1 (15 : UInt32) h g16) ?_
      refine V_if_eq (pc := 46) (tgt := 60) dX10_readAtom_46 (by decide) (fun c60 => ?_) (fun c60 => ?_)
      · rw [if_pos c60] at e
        refine V_pick [0, 1] rfl ?_
        refine V_aload_n (pc := 60) (i := 1) dX10_readAtom_60 rfl rfl ?_
        refine V_ldcS (pc := 61) (j := 16) (u := (16 : UInt32)) dX10_readAtom_61 rfl (by decide) ?_
        obtain ⟨r19, g18, e⟩ := ob_some e
        refine V_callV (pc := 63) (bc := 0) (bs := 0) (mc := 0) (ms := 0) (st := []) (As := [.float (16 : UInt32)]) (a := v1) (h' := h) (r := some (.int r19)) dX10_readAtom_63 ml_X10_52 (ci := 6) rfl (of_decide_eq_true g3) rfl rfl (Nat.le_of_ble_eq_true rfl) (d' := 4) (by omega) (c_X6_isWord (l := x.2.1) v1 (16 : UInt32) h g18) ?_
        refine V_if_eq (pc := 66) (tgt := 80) dX10_readAtom_66 (by decide) (fun c51 => ?_) (fun c51 => ?_)
        · rw [if_pos c51] at e
          refine V_pick [0, 1] rfl ?_
          refine V_aload_n (pc := 80) (i := 1) dX10_readAtom_80 rfl rfl ?_
          refine V_ldcS (pc := 81) (j := 17) (u := (17 : UInt32)) dX10_readAtom_81 rfl (by decide) ?_
          obtain ⟨r21, g20, e⟩ := ob_some e
          refine V_callV (pc := 83) (bc := 0) (bs := 0) (mc := 0) (ms := 0) (st := []) (As := [.float (17 : UInt32)]) (a := v1) (h' := h) (r := some (.int r21)) dX10_readAtom_83 ml_X10_52 (ci := 6) rfl (of_decide_eq_true g3) rfl rfl (Nat.le_of_ble_eq_true rfl) (d' := 4) (by omega) (c_X6_isWord (l := x.2.1) v1 (17 : UInt32) h g20) ?_
          refine V_if_eq (pc := 86) (tgt := 122) dX10_readAtom_86 (by decide) (fun c42 => ?_) (fun c42 => ?_)
          · rw [if_pos c42] at e
            refine V_pick [0, 1] rfl ?_
            refine V_aload_n (pc := 122) (i := 0) dX10_readAtom_122 rfl rfl ?_
            refine V_aload_n (pc := 123) (i := 1) dX10_readAtom_123 rfl rfl ?_
            obtain ⟨r23, h24, g22, e⟩ := ob2_some e
            obtain ⟨g25, e⟩ := gd_some e
            refine V_callV (pc := 124) (bc := 0) (bs := 0) (mc := 0) (ms := 0) (st := []) (As := [.ref v1]) (a := v0) (h' := h24) (r := some (.int r23)) dX10_readAtom_124 ml_X10_89 (ci := 9) rfl (of_decide_eq_true g25) rfl rfl (Nat.le_of_ble_eq_true rfl) (d' := 7) (by omega) (c_X10_readComparison (l := x.2.1) v0 v1 h g22) ?_
            obtain ⟨g26, e⟩ := gd_some e
            cases e
            exact V_zret (pc := 127) dX10_readAtom_127 (z01 (of_decide_eq_true g26)) hF
          · rw [if_neg c42] at e
            refine V_pick [0, 1] rfl ?_
            refine V_aload_n (pc := 89) (i := 1) dX10_readAtom_89 rfl rfl ?_
            obtain ⟨r28, h29, g27, e⟩ := ob2_some e
            refine V_callV (pc := 90) (bc := 0) (bs := 0) (mc := 0) (ms := 0) (st := []) (As := []) (a := v1) (h' := h29) (r := none) dX10_readAtom_90 ml_X10_55 (ci := 6) rfl (of_decide_eq_true g3) rfl rfl (Nat.le_of_ble_eq_true rfl) (d' := 1) (by omega) (c_X6_lookAtNext (l := x.2.1) v1 h g27) ?_
            refine V_aload_n (pc := 93) (i := 1) dX10_readAtom_93 rfl rfl ?_
            refine V_iconst (pc := 94) (v := (0 : Int32)) dX10_readAtom_94 (by decide) ?_
            refine V_iconst (pc := 95) (v := (4 : Int32)) dX10_readAtom_95 (by decide) ?_
            obtain ⟨r31, h32, g30, e⟩ := ob2_some e
            obtain ⟨g33, e⟩ := gd_some e
            refine V_callV (pc := 96) (bc := 0) (bs := 0) (mc := 0) (ms := 0) (st := []) (As := [.int (0 : Int32), .int (4 : Int32)]) (a := v1) (h' := h32) (r := some (.int r31)) dX10_readAtom_96 ml_X10_82 (ci := 6) rfl (of_decide_eq_true g33) rfl rfl (Nat.le_of_ble_eq_true rfl) (d' := 2) (by omega) (c_X6_takeNumber (l := x.2.1) v1 (0 : Int32) (4 : Int32) h29 g30) ?_
            refine V_if_eq (pc := 99) (tgt := 120) dX10_readAtom_99 (by decide) (fun c41 => ?_) (fun c41 => ?_)
            · rw [if_pos c41] at e
              exact V_pick [] rfl (r_X10_readAtom_b120 rc h32 e hD9 hrc0 hrc1 hrc2 hrc3 hF)
            · rw [if_neg c41] at e
              refine V_pick [0, 1] rfl ?_
              refine V_aload_n (pc := 102) (i := 0) dX10_readAtom_102 rfl rfl ?_
              refine V_bipush (pc := 103) (v := (-16 : Int32)) dX10_readAtom_103 (by decide) ?_
              refine V_aload_n (pc := 105) (i := 1) dX10_readAtom_105 rfl rfl ?_
              obtain ⟨g35, e⟩ := gd_some e
              refine V_getI (pc := 106) (ci := 6) (k := 5) dX10_readAtom_106 fl_X10_86 rfl (of_decide_eq_true g35) ?_
              refine V_isub (pc := 109) dX10_readAtom_109 ?_
              obtain ⟨r37, h38, g36, e⟩ := ob2_some e
              obtain ⟨g39, e⟩ := gd_some e
              refine V_callV (pc := 110) (bc := 0) (bs := 0) (mc := 0) (ms := 0) (st := []) (As := [.int ((-16 : Int32) - (zI h32 v1 5))]) (a := v0) (h' := h38) (r := some (.int r37)) dX10_readAtom_110 ml_X10_43 (ci := 9) rfl (of_decide_eq_true g39) rfl rfl (Nat.le_of_ble_eq_true rfl) (d' := 0) (by omega) (c_X10_put (l := x.2.1) v0 ((-16 : Int32) - (zI h32 v1 5)) h32 g36) ?_
              refine V_if_eq (pc := 113) (tgt := 120) dX10_readAtom_113 (by decide) (fun c40 => ?_) (fun c40 => ?_)
              · rw [if_pos c40] at e
                exact V_pick [] rfl (r_X10_readAtom_b120 rc h38 e hD9 hrc0 hrc1 hrc2 hrc3 hF)
              · rw [if_neg c40] at e
                refine V_pick [] rfl ?_
                refine V_iconst (pc := 116) (v := (1 : Int32)) dX10_readAtom_116 (by decide) ?_
                refine V_goto (pc := 117) (tgt := 121) dX10_readAtom_117 (by decide) ?_
                exact V_pick [] rfl (r_X10_readAtom_b121 rc (1 : Int32) h38 e hD9 hrc0 hrc1 hrc2 hrc3 hF)
        · rw [if_neg c51] at e
          refine V_pick [0, 1] rfl ?_
          refine V_aload_n (pc := 69) (i := 1) dX10_readAtom_69 rfl rfl ?_
          obtain ⟨r44, h45, g43, e⟩ := ob2_some e
          refine V_callV (pc := 70) (bc := 0) (bs := 0) (mc := 0) (ms := 0) (st := []) (As := []) (a := v1) (h' := h45) (r := none) dX10_readAtom_70 ml_X10_55 (ci := 6) rfl (of_decide_eq_true g3) rfl rfl (Nat.le_of_ble_eq_true rfl) (d' := 1) (by omega) (c_X6_lookAtNext (l := x.2.1) v1 h g43) ?_
          refine V_aload_n (pc := 73) (i := 0) dX10_readAtom_73 rfl rfl ?_
          refine V_bipush (pc := 74) (v := (-9 : Int32)) dX10_readAtom_74 (by decide) ?_
          obtain ⟨r47, h48, g46, e⟩ := ob2_some e
          obtain ⟨g49, e⟩ := gd_some e
          refine V_callV (pc := 76) (bc := 0) (bs := 0) (mc := 0) (ms := 0) (st := []) (As := [.int (-9 : Int32)]) (a := v0) (h' := h48) (r := some (.int r47)) dX10_readAtom_76 ml_X10_43 (ci := 9) rfl (of_decide_eq_true g49) rfl rfl (Nat.le_of_ble_eq_true rfl) (d' := 0) (by omega) (c_X10_put (l := x.2.1) v0 (-9 : Int32) h45 g46) ?_
          obtain ⟨g50, e⟩ := gd_some e
          cases e
          exact V_zret (pc := 79) dX10_readAtom_79 (z01 (of_decide_eq_true g50)) hF
      · rw [if_neg c60] at e
        refine V_pick [0, 1] rfl ?_
        refine V_aload_n (pc := 49) (i := 1) dX10_readAtom_49 rfl rfl ?_
        obtain ⟨r53, h54, g52, e⟩ := ob2_some e
        refine V_callV (pc := 50) (bc := 0) (bs := 0) (mc := 0) (ms := 0) (st := []) (As := []) (a := v1) (h' := h54) (r := none) dX10_readAtom_50 ml_X10_55 (ci := 6) rfl (of_decide_eq_true g3) rfl rfl (Nat.le_of_ble_eq_true rfl) (d' := 1) (by omega) (c_X6_lookAtNext (l := x.2.1) v1 h g52) ?_
        refine V_aload_n (pc := 53) (i := 0) dX10_readAtom_53 rfl rfl ?_
        refine V_bipush (pc := 54) (v := (-8 : Int32)) dX10_readAtom_54 (by decide) ?_
        obtain ⟨r56, h57, g55, e⟩ := ob2_some e
        obtain ⟨g58, e⟩ := gd_some e
        refine V_callV (pc := 56) (bc := 0) (bs := 0) (mc := 0) (ms := 0) (st := []) (As := [.int (-8 : Int32)]) (a := v0) (h' := h57) (r := some (.int r56)) dX10_readAtom_56 ml_X10_43 (ci := 9) rfl (of_decide_eq_true g58) rfl rfl (Nat.le_of_ble_eq_true rfl) (d' := 0) (by omega) (c_X10_put (l := x.2.1) v0 (-8 : Int32) h54 g55) ?_
        obtain ⟨g59, e⟩ := gd_some e
        cases e
        exact V_zret (pc := 59) dX10_readAtom_59 (z01 (of_decide_eq_true g59)) hF
    · rw [if_neg c61] at e
      exact V_pick [0, 1, 2] rfl (r_X10_readAtom_b18 rc v0 v1 v2 h e hD9 hrc0 hrc1 hrc2 hrc3 hF)
theorem dX10_readDeeper_0 : decode cX10_readDeeper 0 = .ok (.aload_n 1, 1) := by decide +kernel
theorem dX10_readDeeper_1 : decode cX10_readDeeper 1 = .ok (.ldc 63, 2) := by decide +kernel
theorem dX10_readDeeper_3 : decode cX10_readDeeper 3 = .ok (.invokevirtual 52, 3) := by decide +kernel
theorem dX10_readDeeper_6 : decode cX10_readDeeper 6 = .ok (.istore_n 3, 1) := by decide +kernel
theorem dX10_readDeeper_7 : decode cX10_readDeeper 7 = .ok (.aload_n 1, 1) := by decide +kernel
theorem dX10_readDeeper_8 : decode cX10_readDeeper 8 = .ok (.invokevirtual 55, 3) := by decide +kernel
theorem dX10_readDeeper_11 : decode cX10_readDeeper 11 = .ok (.iload_n 3, 1) := by decide +kernel
theorem dX10_readDeeper_12 : decode cX10_readDeeper 12 = .ok (.ifCond .eq 27, 3) := by decide +kernel
theorem dX10_readDeeper_15 : decode cX10_readDeeper 15 = .ok (.aload_n 0, 1) := by decide +kernel
theorem dX10_readDeeper_16 : decode cX10_readDeeper 16 = .ok (.aload_n 1, 1) := by decide +kernel
theorem dX10_readDeeper_17 : decode cX10_readDeeper 17 = .ok (.iload_n 2, 1) := by decide +kernel
theorem dX10_readDeeper_18 : decode cX10_readDeeper 18 = .ok (.invokevirtual 58, 3) := by decide +kernel
theorem dX10_readDeeper_21 : decode cX10_readDeeper 21 = .ok (.ifCond .eq 16, 3) := by decide +kernel
theorem dX10_readDeeper_24 : decode cX10_readDeeper 24 = .ok (.aload_n 0, 1) := by decide +kernel
theorem dX10_readDeeper_25 : decode cX10_readDeeper 25 = .ok (.bipush (-6), 2) := by decide +kernel
theorem dX10_readDeeper_27 : decode cX10_readDeeper 27 = .ok (.invokevirtual 43, 3) := by decide +kernel
theorem dX10_readDeeper_30 : decode cX10_readDeeper 30 = .ok (.ifCond .eq 7, 3) := by decide +kernel
theorem dX10_readDeeper_33 : decode cX10_readDeeper 33 = .ok (.iconst 1, 1) := by decide +kernel
theorem dX10_readDeeper_34 : decode cX10_readDeeper 34 = .ok (.goto 4, 3) := by decide +kernel
theorem dX10_readDeeper_37 : decode cX10_readDeeper 37 = .ok (.iconst 0, 1) := by decide +kernel
theorem dX10_readDeeper_38 : decode cX10_readDeeper 38 = .ok (.ireturn, 1) := by decide +kernel
theorem dX10_readDeeper_39 : decode cX10_readDeeper 39 = .ok (.aload_n 0, 1) := by decide +kernel
theorem dX10_readDeeper_40 : decode cX10_readDeeper 40 = .ok (.aload_n 1, 1) := by decide +kernel
theorem dX10_readDeeper_41 : decode cX10_readDeeper 41 = .ok (.iload_n 2, 1) := by decide +kernel
theorem dX10_readDeeper_42 : decode cX10_readDeeper 42 = .ok (.invokevirtual 39, 3) := by decide +kernel
theorem dX10_readDeeper_45 : decode cX10_readDeeper 45 = .ok (.ifCond .eq 16, 3) := by decide +kernel
theorem dX10_readDeeper_48 : decode cX10_readDeeper 48 = .ok (.aload_n 1, 1) := by decide +kernel
theorem dX10_readDeeper_49 : decode cX10_readDeeper 49 = .ok (.bipush 41, 2) := by decide +kernel
theorem dX10_readDeeper_51 : decode cX10_readDeeper 51 = .ok (.invokevirtual 93, 3) := by decide +kernel
theorem dX10_readDeeper_54 : decode cX10_readDeeper 54 = .ok (.ifCond .eq 7, 3) := by decide +kernel
theorem dX10_readDeeper_57 : decode cX10_readDeeper 57 = .ok (.iconst 1, 1) := by decide +kernel
theorem dX10_readDeeper_58 : decode cX10_readDeeper 58 = .ok (.goto 4, 3) := by decide +kernel
theorem dX10_readDeeper_61 : decode cX10_readDeeper 61 = .ok (.iconst 0, 1) := by decide +kernel
theorem dX10_readDeeper_62 : decode cX10_readDeeper 62 = .ok (.ireturn, 1) := by decide +kernel
set_option maxRecDepth 100000 in
def F_X10_readDeeper_b62 (rc : Nat → Nat → Nat → Int32 → Hp → Option (Int32 × Hp)) (t0 : Int32) (h : Hp) : Option (Int32 × Hp) :=
  gd (decide (t0 = 0 ∨ t0 = 1)) <| some (t0, h)
set_option maxHeartbeats 4000000 in
set_option maxRecDepth 100000 in
theorem r_X10_readDeeper_b62 (rc : Nat → Nat → Nat → Int32 → Hp → Option (Int32 × Hp)) (t0 : Int32) (h : Hp) {x : Cx} {r : Int32} {hz : Hp} (e : F_X10_readDeeper_b62 rc t0 h = some (r, hz)) {D9 : Nat} (hD9 : 20 ≤ D9) (hrc0 : ∀ (a0 : Nat) (a1 : Nat) (a2 : Int32) (h9 : Hp) (r9 : Int32) (z9 : Hp), rc 0 a0 a1 a2 h9 = some (r9, z9) → Ct x.2.1 yX10_readAny M_X10_readAny (some .boolean) D9 [.ref a0, .ref a1, .int a2] h9 0 0 (some (.int r9)) z9) (hrc1 : ∀ (a0 : Nat) (a1 : Nat) (a2 : Int32) (h9 : Hp) (r9 : Int32) (z9 : Hp), rc 1 a0 a1 a2 h9 = some (r9, z9) → Ct x.2.1 yX10_readEach M_X10_readEach (some .boolean) D9 [.ref a0, .ref a1, .int a2] h9 0 0 (some (.int r9)) z9) (hrc2 : ∀ (a0 : Nat) (a1 : Nat) (a2 : Int32) (h9 : Hp) (r9 : Int32) (z9 : Hp), rc 2 a0 a1 a2 h9 = some (r9, z9) → Ct x.2.1 yX10_readAtom M_X10_readAtom (some .boolean) D9 [.ref a0, .ref a1, .int a2] h9 0 0 (some (.int r9)) z9) (hrc3 : ∀ (a0 : Nat) (a1 : Nat) (a2 : Int32) (h9 : Hp) (r9 : Int32) (z9 : Hp), rc 3 a0 a1 a2 h9 = some (r9, z9) → Ct x.2.1 yX10_readDeeper M_X10_readDeeper (some .boolean) D9 [.ref a0, .ref a1, .int a2] h9 0 0 (some (.int r9)) z9) (hF : Fin9 M_X10_readDeeper x (some .boolean) (some (.int r)) hz) : V M_X10_readDeeper x (D9 + 1) 62 [] [.int t0] h 0 0 := by
  unfold F_X10_readDeeper_b62 at e
  obtain ⟨g11, e⟩ := gd_some e
  cases e
  exact V_zret (pc := 62) dX10_readDeeper_62 (z01 (of_decide_eq_true g11)) hF
set_option maxRecDepth 100000 in
def F_X10_readDeeper_b61 (rc : Nat → Nat → Nat → Int32 → Hp → Option (Int32 × Hp))  (h : Hp) : Option (Int32 × Hp) :=
  F_X10_readDeeper_b62 rc (0 : Int32) h
set_option maxHeartbeats 4000000 in
set_option maxRecDepth 100000 in
theorem r_X10_readDeeper_b61 (rc : Nat → Nat → Nat → Int32 → Hp → Option (Int32 × Hp))  (h : Hp) {x : Cx} {r : Int32} {hz : Hp} (e : F_X10_readDeeper_b61 rc  h = some (r, hz)) {D9 : Nat} (hD9 : 20 ≤ D9) (hrc0 : ∀ (a0 : Nat) (a1 : Nat) (a2 : Int32) (h9 : Hp) (r9 : Int32) (z9 : Hp), rc 0 a0 a1 a2 h9 = some (r9, z9) → Ct x.2.1 yX10_readAny M_X10_readAny (some .boolean) D9 [.ref a0, .ref a1, .int a2] h9 0 0 (some (.int r9)) z9) (hrc1 : ∀ (a0 : Nat) (a1 : Nat) (a2 : Int32) (h9 : Hp) (r9 : Int32) (z9 : Hp), rc 1 a0 a1 a2 h9 = some (r9, z9) → Ct x.2.1 yX10_readEach M_X10_readEach (some .boolean) D9 [.ref a0, .ref a1, .int a2] h9 0 0 (some (.int r9)) z9) (hrc2 : ∀ (a0 : Nat) (a1 : Nat) (a2 : Int32) (h9 : Hp) (r9 : Int32) (z9 : Hp), rc 2 a0 a1 a2 h9 = some (r9, z9) → Ct x.2.1 yX10_readAtom M_X10_readAtom (some .boolean) D9 [.ref a0, .ref a1, .int a2] h9 0 0 (some (.int r9)) z9) (hrc3 : ∀ (a0 : Nat) (a1 : Nat) (a2 : Int32) (h9 : Hp) (r9 : Int32) (z9 : Hp), rc 3 a0 a1 a2 h9 = some (r9, z9) → Ct x.2.1 yX10_readDeeper M_X10_readDeeper (some .boolean) D9 [.ref a0, .ref a1, .int a2] h9 0 0 (some (.int r9)) z9) (hF : Fin9 M_X10_readDeeper x (some .boolean) (some (.int r)) hz) : V M_X10_readDeeper x (D9 + 1) 61 [] [] h 0 0 := by
  unfold F_X10_readDeeper_b61 at e
  refine V_iconst (pc := 61) (v := (0 : Int32)) dX10_readDeeper_61 (by decide) ?_
  exact V_pick [] rfl (r_X10_readDeeper_b62 rc (0 : Int32) h e hD9 hrc0 hrc1 hrc2 hrc3 hF)
set_option maxRecDepth 100000 in
def F_X10_readDeeper_b38 (rc : Nat → Nat → Nat → Int32 → Hp → Option (Int32 × Hp)) (t0 : Int32) (h : Hp) : Option (Int32 × Hp) :=
  gd (decide (t0 = 0 ∨ t0 = 1)) <| some (t0, h)
set_option maxHeartbeats 4000000 in
set_option maxRecDepth 100000 in
theorem r_X10_readDeeper_b38 (rc : Nat → Nat → Nat → Int32 → Hp → Option (Int32 × Hp)) (t0 : Int32) (h : Hp) {x : Cx} {r : Int32} {hz : Hp} (e : F_X10_readDeeper_b38 rc t0 h = some (r, hz)) {D9 : Nat} (hD9 : 20 ≤ D9) (hrc0 : ∀ (a0 : Nat) (a1 : Nat) (a2 : Int32) (h9 : Hp) (r9 : Int32) (z9 : Hp), rc 0 a0 a1 a2 h9 = some (r9, z9) → Ct x.2.1 yX10_readAny M_X10_readAny (some .boolean) D9 [.ref a0, .ref a1, .int a2] h9 0 0 (some (.int r9)) z9) (hrc1 : ∀ (a0 : Nat) (a1 : Nat) (a2 : Int32) (h9 : Hp) (r9 : Int32) (z9 : Hp), rc 1 a0 a1 a2 h9 = some (r9, z9) → Ct x.2.1 yX10_readEach M_X10_readEach (some .boolean) D9 [.ref a0, .ref a1, .int a2] h9 0 0 (some (.int r9)) z9) (hrc2 : ∀ (a0 : Nat) (a1 : Nat) (a2 : Int32) (h9 : Hp) (r9 : Int32) (z9 : Hp), rc 2 a0 a1 a2 h9 = some (r9, z9) → Ct x.2.1 yX10_readAtom M_X10_readAtom (some .boolean) D9 [.ref a0, .ref a1, .int a2] h9 0 0 (some (.int r9)) z9) (hrc3 : ∀ (a0 : Nat) (a1 : Nat) (a2 : Int32) (h9 : Hp) (r9 : Int32) (z9 : Hp), rc 3 a0 a1 a2 h9 = some (r9, z9) → Ct x.2.1 yX10_readDeeper M_X10_readDeeper (some .boolean) D9 [.ref a0, .ref a1, .int a2] h9 0 0 (some (.int r9)) z9) (hF : Fin9 M_X10_readDeeper x (some .boolean) (some (.int r)) hz) : V M_X10_readDeeper x (D9 + 1) 38 [] [.int t0] h 0 0 := by
  unfold F_X10_readDeeper_b38 at e
  obtain ⟨g22, e⟩ := gd_some e
  cases e
  exact V_zret (pc := 38) dX10_readDeeper_38 (z01 (of_decide_eq_true g22)) hF
set_option maxRecDepth 100000 in
def F_X10_readDeeper_b37 (rc : Nat → Nat → Nat → Int32 → Hp → Option (Int32 × Hp))  (h : Hp) : Option (Int32 × Hp) :=
  F_X10_readDeeper_b38 rc (0 : Int32) h
set_option maxHeartbeats 4000000 in
set_option maxRecDepth 100000 in
theorem r_X10_readDeeper_b37 (rc : Nat → Nat → Nat → Int32 → Hp → Option (Int32 × Hp))  (h : Hp) {x : Cx} {r : Int32} {hz : Hp} (e : F_X10_readDeeper_b37 rc  h = some (r, hz)) {D9 : Nat} (hD9 : 20 ≤ D9) (hrc0 : ∀ (a0 : Nat) (a1 : Nat) (a2 : Int32) (h9 : Hp) (r9 : Int32) (z9 : Hp), rc 0 a0 a1 a2 h9 = some (r9, z9) → Ct x.2.1 yX10_readAny M_X10_readAny (some .boolean) D9 [.ref a0, .ref a1, .int a2] h9 0 0 (some (.int r9)) z9) (hrc1 : ∀ (a0 : Nat) (a1 : Nat) (a2 : Int32) (h9 : Hp) (r9 : Int32) (z9 : Hp), rc 1 a0 a1 a2 h9 = some (r9, z9) → Ct x.2.1 yX10_readEach M_X10_readEach (some .boolean) D9 [.ref a0, .ref a1, .int a2] h9 0 0 (some (.int r9)) z9) (hrc2 : ∀ (a0 : Nat) (a1 : Nat) (a2 : Int32) (h9 : Hp) (r9 : Int32) (z9 : Hp), rc 2 a0 a1 a2 h9 = some (r9, z9) → Ct x.2.1 yX10_readAtom M_X10_readAtom (some .boolean) D9 [.ref a0, .ref a1, .int a2] h9 0 0 (some (.int r9)) z9) (hrc3 : ∀ (a0 : Nat) (a1 : Nat) (a2 : Int32) (h9 : Hp) (r9 : Int32) (z9 : Hp), rc 3 a0 a1 a2 h9 = some (r9, z9) → Ct x.2.1 yX10_readDeeper M_X10_readDeeper (some .boolean) D9 [.ref a0, .ref a1, .int a2] h9 0 0 (some (.int r9)) z9) (hF : Fin9 M_X10_readDeeper x (some .boolean) (some (.int r)) hz) : V M_X10_readDeeper x (D9 + 1) 37 [] [] h 0 0 := by
  unfold F_X10_readDeeper_b37 at e
  refine V_iconst (pc := 37) (v := (0 : Int32)) dX10_readDeeper_37 (by decide) ?_
  exact V_pick [] rfl (r_X10_readDeeper_b38 rc (0 : Int32) h e hD9 hrc0 hrc1 hrc2 hrc3 hF)
set_option maxRecDepth 100000 in
def F_X10_readDeeper_b0 (rc : Nat → Nat → Nat → Int32 → Hp → Option (Int32 × Hp)) (v0 : Nat) (v1 : Nat) (v2 : Int32) (h : Hp) : Option (Int32 × Hp) :=
  ob (F_X6_isWord v1 (14 : UInt32) h) fun r2 => gd (decide (kd h v1 = 6)) <| ob2 (F_X6_lookAtNext v1 h) fun _ h6 => (if r2 = 0 then ob2 (rc 0 v0 v1 v2 h6) fun r8 h9 => gd (decide (kd h6 v0 = 9)) <| (if r8 = 0 then F_X10_readDeeper_b61 rc h9 else ob2 (F_X6_takeSign v1 (41 : Int32) h9) fun r13 h14 => gd (decide (kd h9 v1 = 6)) <| (if r13 = 0 then F_X10_readDeeper_b61 rc h14 else F_X10_readDeeper_b62 rc (1 : Int32) h14)) else ob2 (rc 2 v0 v1 v2 h6) fun r19 h20 => gd (decide (kd h6 v0 = 9)) <| (if r19 = 0 then F_X10_readDeeper_b37 rc h20 else ob2 (F_X10_put v0 (-6 : Int32) h20) fun r24 h25 => gd (decide (kd h20 v0 = 9)) <| (if r24 = 0 then F_X10_readDeeper_b37 rc h25 else F_X10_readDeeper_b38 rc (1 : Int32) h25)))
set_option maxHeartbeats 4000000 in
set_option maxRecDepth 100000 in
theorem r_X10_readDeeper_b0 (rc : Nat → Nat → Nat → Int32 → Hp → Option (Int32 × Hp)) (v0 : Nat) (v1 : Nat) (v2 : Int32) (h : Hp) {x : Cx} {r : Int32} {hz : Hp} (e : F_X10_readDeeper_b0 rc v0 v1 v2 h = some (r, hz)) {D9 : Nat} (hD9 : 20 ≤ D9) (hrc0 : ∀ (a0 : Nat) (a1 : Nat) (a2 : Int32) (h9 : Hp) (r9 : Int32) (z9 : Hp), rc 0 a0 a1 a2 h9 = some (r9, z9) → Ct x.2.1 yX10_readAny M_X10_readAny (some .boolean) D9 [.ref a0, .ref a1, .int a2] h9 0 0 (some (.int r9)) z9) (hrc1 : ∀ (a0 : Nat) (a1 : Nat) (a2 : Int32) (h9 : Hp) (r9 : Int32) (z9 : Hp), rc 1 a0 a1 a2 h9 = some (r9, z9) → Ct x.2.1 yX10_readEach M_X10_readEach (some .boolean) D9 [.ref a0, .ref a1, .int a2] h9 0 0 (some (.int r9)) z9) (hrc2 : ∀ (a0 : Nat) (a1 : Nat) (a2 : Int32) (h9 : Hp) (r9 : Int32) (z9 : Hp), rc 2 a0 a1 a2 h9 = some (r9, z9) → Ct x.2.1 yX10_readAtom M_X10_readAtom (some .boolean) D9 [.ref a0, .ref a1, .int a2] h9 0 0 (some (.int r9)) z9) (hrc3 : ∀ (a0 : Nat) (a1 : Nat) (a2 : Int32) (h9 : Hp) (r9 : Int32) (z9 : Hp), rc 3 a0 a1 a2 h9 = some (r9, z9) → Ct x.2.1 yX10_readDeeper M_X10_readDeeper (some .boolean) D9 [.ref a0, .ref a1, .int a2] h9 0 0 (some (.int r9)) z9) (hF : Fin9 M_X10_readDeeper x (some .boolean) (some (.int r)) hz) : V M_X10_readDeeper x (D9 + 1) 0 [(0, .ref v0), (1, .ref v1), (2, .int v2)] [] h 0 0 := by
  unfold F_X10_readDeeper_b0 at e
  refine V_aload_n (pc := 0) (i := 1) dX10_readDeeper_0 rfl rfl ?_
  refine V_ldcS (pc := 1) (j := 14) (u := (14 : UInt32)) dX10_readDeeper_1 rfl (by decide) ?_
  obtain ⟨r2, g1, e⟩ := ob_some e
  obtain ⟨g3, e⟩ := gd_some e
  refine V_callV (pc := 3) (bc := 0) (bs := 0) (mc := 0) (ms := 0) (st := []) (As := [.float (14 : UInt32)]) (a := v1) (h' := h) (r := some (.int r2)) dX10_readDeeper_3 ml_X10_52 (ci := 6) rfl (of_decide_eq_true g3) rfl rfl (Nat.le_of_ble_eq_true rfl) (d' := 4) (by omega) (c_X6_isWord (l := x.2.1) v1 (14 : UInt32) h g1) ?_
  refine V_istore_n (pc := 6) (i := 3) (lv' := [(3, .int r2), (0, .ref v0), (1, .ref v1), (2, .int v2)]) dX10_readDeeper_6 rfl (by decide) rfl ?_
  refine V_aload_n (pc := 7) (i := 1) dX10_readDeeper_7 rfl rfl ?_
  obtain ⟨r5, h6, g4, e⟩ := ob2_some e
  refine V_callV (pc := 8) (bc := 0) (bs := 0) (mc := 0) (ms := 0) (st := []) (As := []) (a := v1) (h' := h6) (r := none) dX10_readDeeper_8 ml_X10_55 (ci := 6) rfl (of_decide_eq_true g3) rfl rfl (Nat.le_of_ble_eq_true rfl) (d' := 1) (by omega) (c_X6_lookAtNext (l := x.2.1) v1 h g4) ?_
  refine V_iload_n (pc := 11) (i := 3) dX10_readDeeper_11 rfl rfl ?_
  refine V_if_eq (pc := 12) (tgt := 39) dX10_readDeeper_12 (by decide) (fun c29 => ?_) (fun c29 => ?_)
  · rw [if_pos c29] at e
    refine V_pick [1, 2, 3] rfl ?_
    refine V_aload_n (pc := 39) (i := 0) dX10_readDeeper_39 rfl rfl ?_
    refine V_aload_n (pc := 40) (i := 1) dX10_readDeeper_40 rfl rfl ?_
    refine V_iload_n (pc := 41) (i := 2) dX10_readDeeper_41 rfl rfl ?_
    obtain ⟨r8, h9, g7, e⟩ := ob2_some e
    obtain ⟨g10, e⟩ := gd_some e
    refine V_callV (pc := 42) (bc := 0) (bs := 0) (mc := 0) (ms := 0) (st := []) (As := [.ref v1, .int v2]) (a := v0) (h' := h9) (r := some (.int r8)) dX10_readDeeper_42 ml_X10_39 (ci := 9) rfl (of_decide_eq_true g10) rfl rfl (Nat.le_of_ble_eq_true rfl) (d' := D9) (by omega) (hrc0 v0 v1 v2 h6 _ _ g7) ?_
    refine V_if_eq (pc := 45) (tgt := 61) dX10_readDeeper_45 (by decide) (fun c17 => ?_) (fun c17 => ?_)
    · rw [if_pos c17] at e
      exact V_pick [] rfl (r_X10_readDeeper_b61 rc h9 e hD9 hrc0 hrc1 hrc2 hrc3 hF)
    · rw [if_neg c17] at e
      refine V_pick [1] rfl ?_
      refine V_aload_n (pc := 48) (i := 1) dX10_readDeeper_48 rfl rfl ?_
      refine V_bipush (pc := 49) (v := (41 : Int32)) dX10_readDeeper_49 (by decide) ?_
      obtain ⟨r13, h14, g12, e⟩ := ob2_some e
      obtain ⟨g15, e⟩ := gd_some e
      refine V_callV (pc := 51) (bc := 0) (bs := 0) (mc := 0) (ms := 0) (st := []) (As := [.int (41 : Int32)]) (a := v1) (h' := h14) (r := some (.int r13)) dX10_readDeeper_51 ml_X10_93 (ci := 6) rfl (of_decide_eq_true g15) rfl rfl (Nat.le_of_ble_eq_true rfl) (d' := 2) (by omega) (c_X6_takeSign (l := x.2.1) v1 (41 : Int32) h9 g12) ?_
      refine V_if_eq (pc := 54) (tgt := 61) dX10_readDeeper_54 (by decide) (fun c16 => ?_) (fun c16 => ?_)
      · rw [if_pos c16] at e
        exact V_pick [] rfl (r_X10_readDeeper_b61 rc h14 e hD9 hrc0 hrc1 hrc2 hrc3 hF)
      · rw [if_neg c16] at e
        refine V_pick [] rfl ?_
        refine V_iconst (pc := 57) (v := (1 : Int32)) dX10_readDeeper_57 (by decide) ?_
        refine V_goto (pc := 58) (tgt := 62) dX10_readDeeper_58 (by decide) ?_
        exact V_pick [] rfl (r_X10_readDeeper_b62 rc (1 : Int32) h14 e hD9 hrc0 hrc1 hrc2 hrc3 hF)
  · rw [if_neg c29] at e
    refine V_pick [1, 2, 3] rfl ?_
    refine V_aload_n (pc := 15) (i := 0) dX10_readDeeper_15 rfl rfl ?_
    refine V_aload_n (pc := 16) (i := 1) dX10_readDeeper_16 rfl rfl ?_
    refine V_iload_n (pc := 17) (i := 2) dX10_readDeeper_17 rfl rfl ?_
    obtain ⟨r19, h20, g18, e⟩ := ob2_some e
    obtain ⟨g21, e⟩ := gd_some e
    refine V_callV (pc := 18) (bc := 0) (bs := 0) (mc := 0) (ms := 0) (st := []) (As := [.ref v1, .int v2]) (a := v0) (h' := h20) (r := some (.int r19)) dX10_readDeeper_18 ml_X10_58 (ci := 9) rfl (of_decide_eq_true g21) rfl rfl (Nat.le_of_ble_eq_true rfl) (d' := D9) (by omega) (hrc2 v0 v1 v2 h6 _ _ g18) ?_
    refine V_if_eq (pc := 21) (tgt := 37) dX10_readDeeper_21 (by decide) (fun c28 => ?_) (fun c28 => ?_)
    · rw [if_pos c28] at e
      exact V_pick [] rfl (r_X10_readDeeper_b37 rc h20 e hD9 hrc0 hrc1 hrc2 hrc3 hF)
    · rw [if_neg c28] at e
      refine V_pick [0] rfl ?_
      refine V_aload_n (pc := 24) (i := 0) dX10_readDeeper_24 rfl rfl ?_
      refine V_bipush (pc := 25) (v := (-6 : Int32)) dX10_readDeeper_25 (by decide) ?_
      obtain ⟨r24, h25, g23, e⟩ := ob2_some e
      obtain ⟨g26, e⟩ := gd_some e
      refine V_callV (pc := 27) (bc := 0) (bs := 0) (mc := 0) (ms := 0) (st := []) (As := [.int (-6 : Int32)]) (a := v0) (h' := h25) (r := some (.int r24)) dX10_readDeeper_27 ml_X10_43 (ci := 9) rfl (of_decide_eq_true g26) rfl rfl (Nat.le_of_ble_eq_true rfl) (d' := 0) (by omega) (c_X10_put (l := x.2.1) v0 (-6 : Int32) h20 g23) ?_
      refine V_if_eq (pc := 30) (tgt := 37) dX10_readDeeper_30 (by decide) (fun c27 => ?_) (fun c27 => ?_)
      · rw [if_pos c27] at e
        exact V_pick [] rfl (r_X10_readDeeper_b37 rc h25 e hD9 hrc0 hrc1 hrc2 hrc3 hF)
      · rw [if_neg c27] at e
        refine V_pick [] rfl ?_
        refine V_iconst (pc := 33) (v := (1 : Int32)) dX10_readDeeper_33 (by decide) ?_
        refine V_goto (pc := 34) (tgt := 38) dX10_readDeeper_34 (by decide) ?_
        exact V_pick [] rfl (r_X10_readDeeper_b38 rc (1 : Int32) h25 e hD9 hrc0 hrc1 hrc2 hrc3 hF)
def FR_X10 : Nat → Nat → Nat → Nat → Int32 → Hp → Option (Int32 × Hp)
  | 0 => fun _ _ _ _ _ => none
  | n + 1 => fun j a0 a1 a2 h => if j = 0 then F_X10_readAny_b0 (FR_X10 n) a0 a1 a2 h else if j = 1 then F_X10_readEach_b0 (FR_X10 n) a0 a1 a2 h else if j = 2 then F_X10_readAtom_b0 (FR_X10 n) a0 a1 a2 h else F_X10_readDeeper_b0 (FR_X10 n) a0 a1 a2 h
set_option maxHeartbeats 4000000 in
set_option maxRecDepth 100000 in
theorem cR_X10 (l : Launch) : ∀ n : Nat, (∀ (a0 : Nat) (a1 : Nat) (a2 : Int32) (h : Hp) (r : Int32) (hz : Hp), FR_X10 n 0 a0 a1 a2 h = some (r, hz) → Ct l yX10_readAny M_X10_readAny (some .boolean) (20 + n) [.ref a0, .ref a1, .int a2] h 0 0 (some (.int r)) hz) ∧ (∀ (a0 : Nat) (a1 : Nat) (a2 : Int32) (h : Hp) (r : Int32) (hz : Hp), FR_X10 n 1 a0 a1 a2 h = some (r, hz) → Ct l yX10_readEach M_X10_readEach (some .boolean) (20 + n) [.ref a0, .ref a1, .int a2] h 0 0 (some (.int r)) hz) ∧ (∀ (a0 : Nat) (a1 : Nat) (a2 : Int32) (h : Hp) (r : Int32) (hz : Hp), FR_X10 n 2 a0 a1 a2 h = some (r, hz) → Ct l yX10_readAtom M_X10_readAtom (some .boolean) (20 + n) [.ref a0, .ref a1, .int a2] h 0 0 (some (.int r)) hz) ∧ (∀ (a0 : Nat) (a1 : Nat) (a2 : Int32) (h : Hp) (r : Int32) (hz : Hp), FR_X10 n 3 a0 a1 a2 h = some (r, hz) → Ct l yX10_readDeeper M_X10_readDeeper (some .boolean) (20 + n) [.ref a0, .ref a1, .int a2] h 0 0 (some (.int r)) hz)
  | 0 => ⟨(fun _ _ _ _ _ _ e => by cases e), (fun _ _ _ _ _ _ e => by cases e), (fun _ _ _ _ _ _ e => by cases e), (fun _ _ _ _ _ _ e => by cases e)⟩
  | n + 1 => by
    obtain ⟨k0, k1, k2, k3⟩ := cR_X10 l n
    refine ⟨?_, ?_, ?_, ?_⟩
    · intro a0 a1 a2 h r hz e
      have e : F_X10_readAny_b0 (FR_X10 n) a0 a1 a2 h = some (r, hz) := e
      refine Ct_of rfl rfl (fun q => by cases q) (Nat.le_of_ble_eq_true rfl) (fun x hx hF => ?_)
      subst hx
      rw [show 20 + (n + 1) = (20 + n) + 1 by omega]
      exact V_pick [0, 1, 2] rfl (r_X10_readAny_b0 (FR_X10 n) a0 a1 a2 h e (by omega) k0 k1 k2 k3 hF)
    · intro a0 a1 a2 h r hz e
      have e : F_X10_readEach_b0 (FR_X10 n) a0 a1 a2 h = some (r, hz) := e
      refine Ct_of rfl rfl (fun q => by cases q) (Nat.le_of_ble_eq_true rfl) (fun x hx hF => ?_)
      subst hx
      rw [show 20 + (n + 1) = (20 + n) + 1 by omega]
      exact V_pick [0, 1, 2] rfl (r_X10_readEach_b0 (FR_X10 n) a0 a1 a2 h e (by omega) k0 k1 k2 k3 hF)
    · intro a0 a1 a2 h r hz e
      have e : F_X10_readAtom_b0 (FR_X10 n) a0 a1 a2 h = some (r, hz) := e
      refine Ct_of rfl rfl (fun q => by cases q) (Nat.le_of_ble_eq_true rfl) (fun x hx hF => ?_)
      subst hx
      rw [show 20 + (n + 1) = (20 + n) + 1 by omega]
      exact V_pick [0, 1, 2] rfl (r_X10_readAtom_b0 (FR_X10 n) a0 a1 a2 h e (by omega) k0 k1 k2 k3 hF)
    · intro a0 a1 a2 h r hz e
      have e : F_X10_readDeeper_b0 (FR_X10 n) a0 a1 a2 h = some (r, hz) := e
      refine Ct_of rfl rfl (fun q => by cases q) (Nat.le_of_ble_eq_true rfl) (fun x hx hF => ?_)
      subst hx
      rw [show 20 + (n + 1) = (20 + n) + 1 by omega]
      exact V_pick [0, 1, 2] rfl (r_X10_readDeeper_b0 (FR_X10 n) a0 a1 a2 h e (by omega) k0 k1 k2 k3 hF)
def F_X10_readAny (a0 : Nat) (a1 : Nat) (a2 : Int32) (h : Hp) : Option (Int32 × Hp) := FR_X10 40 0 a0 a1 a2 h
theorem c_X10_readAny {l : Launch} (a0 : Nat) (a1 : Nat) (a2 : Int32) (h : Hp) {r : Int32} {hz : Hp} (e : F_X10_readAny a0 a1 a2 h = some (r, hz)) : Ct l yX10_readAny M_X10_readAny (some .boolean) 60 [.ref a0, .ref a1, .int a2] h 0 0 (some (.int r)) hz := (cR_X10 l 40).1 a0 a1 a2 h r hz e
def F_X10_readEach (a0 : Nat) (a1 : Nat) (a2 : Int32) (h : Hp) : Option (Int32 × Hp) := FR_X10 40 1 a0 a1 a2 h
theorem c_X10_readEach {l : Launch} (a0 : Nat) (a1 : Nat) (a2 : Int32) (h : Hp) {r : Int32} {hz : Hp} (e : F_X10_readEach a0 a1 a2 h = some (r, hz)) : Ct l yX10_readEach M_X10_readEach (some .boolean) 60 [.ref a0, .ref a1, .int a2] h 0 0 (some (.int r)) hz := (cR_X10 l 40).2.1 a0 a1 a2 h r hz e
def F_X10_readAtom (a0 : Nat) (a1 : Nat) (a2 : Int32) (h : Hp) : Option (Int32 × Hp) := FR_X10 40 2 a0 a1 a2 h
theorem c_X10_readAtom {l : Launch} (a0 : Nat) (a1 : Nat) (a2 : Int32) (h : Hp) {r : Int32} {hz : Hp} (e : F_X10_readAtom a0 a1 a2 h = some (r, hz)) : Ct l yX10_readAtom M_X10_readAtom (some .boolean) 60 [.ref a0, .ref a1, .int a2] h 0 0 (some (.int r)) hz := (cR_X10 l 40).2.2.1 a0 a1 a2 h r hz e
def F_X10_readDeeper (a0 : Nat) (a1 : Nat) (a2 : Int32) (h : Hp) : Option (Int32 × Hp) := FR_X10 40 3 a0 a1 a2 h
theorem c_X10_readDeeper {l : Launch} (a0 : Nat) (a1 : Nat) (a2 : Int32) (h : Hp) {r : Int32} {hz : Hp} (e : F_X10_readDeeper a0 a1 a2 h = some (r, hz)) : Ct l yX10_readDeeper M_X10_readDeeper (some .boolean) 60 [.ref a0, .ref a1, .int a2] h 0 0 (some (.int r)) hz := (cR_X10 l 40).2.2.2 a0 a1 a2 h r hz e
set_option maxRecDepth 100000 in
def F_X7_readLines_k3_l21 (v0 : Nat) (v1 : Nat) (v2 : Nat) (v3 : Int32) (v4 : Int32) (h : Hp) : Option ((Int32 × Hp) ⊕ (Hp ⊕ (Hp ⊕ (Hp ⊕ Hp)))) :=
  (if v3 ≤ v4 then some (.inr (.inl h)) else ob2 (F_X3_readLine v0 v1 v2 h) fun r10 h11 => gd (decide (kd h v0 = 3)) <| (if r10 = 0 then some (.inr (.inr (.inl h11))) else gd (decide (kd h11 v0 = 3)) <| ob (F_X6_hasMore v1 (setI h11 v0 0 ((zI h11 v0 0) + (1 : Int32)))) fun r15 => gd (decide (kd (setI h11 v0 0 ((zI h11 v0 0) + (1 : Int32))) v1 = 6)) <| (if r15 = 0 then some (.inr (.inr (.inr (.inl (setI h11 v0 0 ((zI h11 v0 0) + (1 : Int32))))))) else ob2 (F_X6_takeSign v1 (59 : Int32) (setI h11 v0 0 ((zI h11 v0 0) + (1 : Int32)))) fun r18 h19 => (if r18 = 0 then some (.inr (.inr (.inr (.inr h19)))) else some (.inl (v4 + (1 : Int32), h19))))))
set_option maxHeartbeats 4000000 in
set_option maxRecDepth 100000 in
theorem r_X7_readLines_k3_l21 (v0 : Nat) (v1 : Nat) (v2 : Nat) (v3 : Int32) (v4 : Int32) (h : Hp) {x : Cx} {o : ((Int32 × Hp) ⊕ (Hp ⊕ (Hp ⊕ (Hp ⊕ Hp))))} (e : F_X7_readLines_k3_l21 v0 v1 v2 v3 v4 h = some o) (kI : ∀ z, o = .inl z → V M_X7_readLines_k3 x 8 21 [(0, .ref v0), (1, .ref v1), (2, .ref v2), (3, .int v3), (4, .int z.1)] [] z.2 0 0) (kE74 : ∀ z : Hp, o = .inr (.inl z) → V M_X7_readLines_k3 x 8 74 [(1, .ref v1)] [] z 0 0) (kE36 : ∀ z : Hp, o = .inr (.inr (.inl z)) → V M_X7_readLines_k3 x 8 36 [] [] z 0 0) (kE55 : ∀ z : Hp, o = .inr (.inr (.inr (.inl z))) → V M_X7_readLines_k3 x 8 55 [] [] z 0 0) (kE66 : ∀ z : Hp, o = .inr (.inr (.inr (.inr z))) → V M_X7_readLines_k3 x 8 66 [] [] z 0 0) : V M_X7_readLines_k3 x 8 21 [(0, .ref v0), (1, .ref v1), (2, .ref v2), (3, .int v3), (4, .int v4)] [] h 0 0 := by
  unfold F_X7_readLines_k3_l21 at e
  refine V_iload (pc := 21) (i := 4) dX7_readLines_21 rfl ?_
  refine V_iload_n (pc := 23) (i := 3) dX7_readLines_23 rfl rfl ?_
  refine V_icmp_ge (pc := 24) (tgt := 74) dX7_readLines_24 (by decide) (fun c23 => ?_) (fun c23 => ?_)
  · rw [if_pos c23] at e
    cases e
    exact V_pick [1] rfl (kE74 h rfl)
  · rw [if_neg c23] at e
    refine V_pick [0, 1, 2, 3, 4] rfl ?_
    refine V_aload_n (pc := 27) (i := 0) dX7_readLines_27 rfl rfl ?_
    refine V_aload_n (pc := 28) (i := 1) dX7_readLines_28 rfl rfl ?_
    refine V_aload_n (pc := 29) (i := 2) dX7_readLines_29 rfl rfl ?_
    obtain ⟨r10, h11, g9, e⟩ := ob2_some e
    obtain ⟨g12, e⟩ := gd_some e
    refine V_callU (pc := 30) (bc := 0) (bs := 0) (mc := 0) (ms := 0) (st := []) (As := [.ref v1, .ref v2]) (a := v0) (h' := h11) (r := some (.int r10)) dX7_readLines_30 ml_X7_22_k3 (ci := 3) rfl (of_decide_eq_true g12) rfl rfl (Nat.le_of_ble_eq_true rfl) (d' := 7) (by decide) (c_X3_readLine (l := x.2.1) v0 v1 v2 h g9) ?_
    refine V_if_ne (pc := 33) (tgt := 38) dX7_readLines_33 (by decide) (fun c22 => ?_) (fun c22 => ?_)
    · rw [if_neg c22] at e
      refine V_pick [0, 1, 2, 3, 4] rfl ?_
      refine V_aload_n (pc := 38) (i := 0) dX7_readLines_38 rfl rfl ?_
      refine V_dup (pc := 39) dX7_readLines_39 rfl ?_
      obtain ⟨g13, e⟩ := gd_some e
      refine V_getI (pc := 40) (ci := 3) (k := 0) dX7_readLines_40 fl_X7_7_k3 rfl (of_decide_eq_true g13) ?_
      refine V_iconst (pc := 43) (v := (1 : Int32)) dX7_readLines_43 (by decide) ?_
      refine V_iadd (pc := 44) dX7_readLines_44 ?_
      refine V_putI (pc := 45) (ci := 3) (k := 0) dX7_readLines_45 fp_X7_7_k3 rfl (of_decide_eq_true g13) ?_
      refine V_aload_n (pc := 48) (i := 1) dX7_readLines_48 rfl rfl ?_
      obtain ⟨r15, g14, e⟩ := ob_some e
      obtain ⟨g16, e⟩ := gd_some e
      refine V_callV (pc := 49) (bc := 0) (bs := 0) (mc := 0) (ms := 0) (st := []) (As := []) (a := v1) (h' := (setI h11 v0 0 ((zI h11 v0 0) + (1 : Int32)))) (r := some (.int r15)) dX7_readLines_49 ml_X7_18 (ci := 6) rfl (of_decide_eq_true g16) rfl rfl (Nat.le_of_ble_eq_true rfl) (d' := 0) (by decide) (c_X6_hasMore (l := x.2.1) v1 (setI h11 v0 0 ((zI h11 v0 0) + (1 : Int32))) g14) ?_
      refine V_if_ne (pc := 52) (tgt := 57) dX7_readLines_52 (by decide) (fun c21 => ?_) (fun c21 => ?_)
      · rw [if_neg c21] at e
        refine V_pick [0, 1, 2, 3, 4] rfl ?_
        refine V_aload_n (pc := 57) (i := 1) dX7_readLines_57 rfl rfl ?_
        refine V_bipush (pc := 58) (v := (59 : Int32)) dX7_readLines_58 (by decide) ?_
        obtain ⟨r18, h19, g17, e⟩ := ob2_some e
        refine V_callV (pc := 60) (bc := 0) (bs := 0) (mc := 0) (ms := 0) (st := []) (As := [.int (59 : Int32)]) (a := v1) (h' := h19) (r := some (.int r18)) dX7_readLines_60 ml_X7_26 (ci := 6) rfl (of_decide_eq_true g16) rfl rfl (Nat.le_of_ble_eq_true rfl) (d' := 2) (by decide) (c_X6_takeSign (l := x.2.1) v1 (59 : Int32) (setI h11 v0 0 ((zI h11 v0 0) + (1 : Int32))) g17) ?_
        refine V_if_ne (pc := 63) (tgt := 68) dX7_readLines_63 (by decide) (fun c20 => ?_) (fun c20 => ?_)
        · rw [if_neg c20] at e
          refine V_pick [0, 1, 2, 3, 4] rfl ?_
          refine V_iinc (pc := 68) (i := 4) (u := v4 + (1 : Int32)) (lv' := [(4, .int (v4 + (1 : Int32))), (0, .ref v0), (1, .ref v1), (2, .ref v2), (3, .int v3)]) dX7_readLines_68 rfl rfl (by decide) rfl ?_
          refine V_goto (pc := 71) (tgt := 21) dX7_readLines_71 (by decide) ?_
          cases e
          exact V_pick [1, 2, 3, 4, 0] rfl (kI (v4 + (1 : Int32), h19) rfl)
        · rw [if_pos c20] at e
          cases e
          exact V_pick [] rfl (kE66 h19 rfl)
      · rw [if_pos c21] at e
        cases e
        exact V_pick [] rfl (kE55 (setI h11 v0 0 ((zI h11 v0 0) + (1 : Int32))) rfl)
    · rw [if_pos c22] at e
      cases e
      exact V_pick [] rfl (kE36 h11 rfl)
set_option maxRecDepth 100000 in
def F_X7_readLines_k3_b0 (v0 : Nat) (v1 : Nat) (v2 : Nat) (v3 : Int32) (h : Hp) : Option (Int32 × Hp) :=
  gd (decide (kd h v0 = 3)) <| ob2 (F_X6_lookAtFirst v1 (setI h v0 0 (0 : Int32))) fun _ h4 => gd (decide (kd (setI h v0 0 (0 : Int32)) v1 = 6)) <| ob (F_X6_hasMore v1 h4) fun r7 => gd (decide (kd h4 v1 = 6)) <| (if r7 = 0 then some ((1 : Int32), h4) else ob (iter (fun z : Int32 × Hp => F_X7_readLines_k3_l21 v0 v1 v2 v3 z.1 z.2) FU ((0 : Int32), h4)) (fun z => sm z (fun h24 => ob2 (F_X6_refuse v1 h24) fun r26 h27 => gd (decide (kd h24 v1 = 6)) <| gd (decide (r26 = 0 ∨ r26 = 1)) <| some (r26, h27)) (fun z => sm z (fun h30 => some ((0 : Int32), h30)) (fun z => sm z (fun h31 => some ((1 : Int32), h31)) (fun h32 => some ((0 : Int32), h32))))))
set_option maxHeartbeats 4000000 in
set_option maxRecDepth 100000 in
theorem r_X7_readLines_k3_b0 (v0 : Nat) (v1 : Nat) (v2 : Nat) (v3 : Int32) (h : Hp) {x : Cx} {r : Int32} {hz : Hp} (e : F_X7_readLines_k3_b0 v0 v1 v2 v3 h = some (r, hz)) (hF : Fin9 M_X7_readLines_k3 x (some .boolean) (some (.int r)) hz) : V M_X7_readLines_k3 x 8 0 [(0, .ref v0), (1, .ref v1), (2, .ref v2), (3, .int v3)] [] h 0 0 := by
  unfold F_X7_readLines_k3_b0 at e
  refine V_aload_n (pc := 0) (i := 0) dX7_readLines_0 rfl rfl ?_
  refine V_iconst (pc := 1) (v := (0 : Int32)) dX7_readLines_1 (by decide) ?_
  obtain ⟨g1, e⟩ := gd_some e
  refine V_putI (pc := 2) (ci := 3) (k := 0) dX7_readLines_2 fp_X7_7_k3 rfl (of_decide_eq_true g1) ?_
  refine V_aload_n (pc := 5) (i := 1) dX7_readLines_5 rfl rfl ?_
  obtain ⟨r3, h4, g2, e⟩ := ob2_some e
  obtain ⟨g5, e⟩ := gd_some e
  refine V_callV (pc := 6) (bc := 0) (bs := 0) (mc := 0) (ms := 0) (st := []) (As := []) (a := v1) (h' := h4) (r := none) dX7_readLines_6 ml_X7_13 (ci := 6) rfl (of_decide_eq_true g5) rfl rfl (Nat.le_of_ble_eq_true rfl) (d' := 2) (by decide) (c_X6_lookAtFirst (l := x.2.1) v1 (setI h v0 0 (0 : Int32)) g2) ?_
  refine V_aload_n (pc := 9) (i := 1) dX7_readLines_9 rfl rfl ?_
  obtain ⟨r7, g6, e⟩ := ob_some e
  obtain ⟨g8, e⟩ := gd_some e
  refine V_callV (pc := 10) (bc := 0) (bs := 0) (mc := 0) (ms := 0) (st := []) (As := []) (a := v1) (h' := h4) (r := some (.int r7)) dX7_readLines_10 ml_X7_18 (ci := 6) rfl (of_decide_eq_true g8) rfl rfl (Nat.le_of_ble_eq_true rfl) (d' := 0) (by decide) (c_X6_hasMore (l := x.2.1) v1 h4 g6) ?_
  refine V_if_ne (pc := 13) (tgt := 18) dX7_readLines_13 (by decide) (fun c41 => ?_) (fun c41 => ?_)
  · rw [if_neg c41] at e
    refine V_pick [0, 1, 2, 3] rfl ?_
    refine V_iconst (pc := 18) (v := (0 : Int32)) dX7_readLines_18 (by decide) ?_
    refine V_istore (pc := 19) (i := 4) (lv' := [(4, .int (0 : Int32)), (0, .ref v0), (1, .ref v1), (2, .ref v2), (3, .int v3)]) dX7_readLines_19 (by decide) rfl ?_
    refine V_pick [1, 2, 3, 4, 0] rfl ?_
    obtain ⟨y33, g34, e⟩ := ob_some e
    refine iter_V (P := fun z : Int32 × Hp => V M_X7_readLines_k3 x 8 21 [(0, .ref v0), (1, .ref v1), (2, .ref v2), (3, .int v3), (4, .int z.1)] [] z.2 0 0) (E := fun z => Sum.elim (fun z : Hp => V M_X7_readLines_k3 x 8 74 [(1, .ref v1)] [] z 0 0) (fun z => Sum.elim (fun z : Hp => V M_X7_readLines_k3 x 8 36 [] [] z 0 0) (fun z => Sum.elim (fun z : Hp => V M_X7_readLines_k3 x 8 55 [] [] z 0 0) (fun z : Hp => V M_X7_readLines_k3 x 8 66 [] [] z 0 0) z) z) z) (fun z o e9 k1 k2 => r_X7_readLines_k3_l21 v0 v1 v2 v3 z.1 z.2 e9 (fun z hz9 => k1 z hz9) (fun z hz9 => k2 _ hz9) (fun z hz9 => k2 _ hz9) (fun z hz9 => k2 _ hz9) (fun z hz9 => k2 _ hz9)) _ _ _ g34 ?_
    clear g34
    rcases y33 with y35 | y36
    · obtain ⟨h24, rfl⟩ : ∃ q, q = y35 := ⟨_, rfl⟩
      replace e : (ob2 (F_X6_refuse v1 h24) fun r26 h27 => gd (decide (kd h24 v1 = 6)) <| gd (decide (r26 = 0 ∨ r26 = 1)) <| some (r26, h27)) = some (r, hz) := e
      show V M_X7_readLines_k3 x 8 74 [(1, .ref v1)] [] h24 0 0
      refine V_aload_n (pc := 74) (i := 1) dX7_readLines_74 rfl rfl ?_
      obtain ⟨r26, h27, g25, e⟩ := ob2_some e
      obtain ⟨g28, e⟩ := gd_some e
      refine V_callV (pc := 75) (bc := 0) (bs := 0) (mc := 0) (ms := 0) (st := []) (As := []) (a := v1) (h' := h27) (r := some (.int r26)) dX7_readLines_75 ml_X7_30 (ci := 6) rfl (of_decide_eq_true g28) rfl rfl (Nat.le_of_ble_eq_true rfl) (d' := 0) (by decide) (c_X6_refuse (l := x.2.1) v1 h24 g25) ?_
      obtain ⟨g29, e⟩ := gd_some e
      cases e
      exact V_zret (pc := 78) dX7_readLines_78 (z01 (of_decide_eq_true g29)) hF
    · rcases y36 with y37 | y38
      · obtain ⟨h30, rfl⟩ : ∃ q, q = y37 := ⟨_, rfl⟩
        replace e : (some ((0 : Int32), h30)) = some (r, hz) := e
        show V M_X7_readLines_k3 x 8 36 [] [] h30 0 0
        refine V_iconst (pc := 36) (v := (0 : Int32)) dX7_readLines_36 (by decide) ?_
        cases e
        exact V_zret (pc := 37) dX7_readLines_37 rfl hF
      · rcases y38 with y39 | y40
        · obtain ⟨h31, rfl⟩ : ∃ q, q = y39 := ⟨_, rfl⟩
          replace e : (some ((1 : Int32), h31)) = some (r, hz) := e
          show V M_X7_readLines_k3 x 8 55 [] [] h31 0 0
          refine V_iconst (pc := 55) (v := (1 : Int32)) dX7_readLines_55 (by decide) ?_
          cases e
          exact V_zret (pc := 56) dX7_readLines_56 rfl hF
        · obtain ⟨h32, rfl⟩ : ∃ q, q = y40 := ⟨_, rfl⟩
          replace e : (some ((0 : Int32), h32)) = some (r, hz) := e
          show V M_X7_readLines_k3 x 8 66 [] [] h32 0 0
          refine V_iconst (pc := 66) (v := (0 : Int32)) dX7_readLines_66 (by decide) ?_
          cases e
          exact V_zret (pc := 67) dX7_readLines_67 rfl hF
  · rw [if_pos c41] at e
    refine V_pick [] rfl ?_
    refine V_iconst (pc := 16) (v := (1 : Int32)) dX7_readLines_16 (by decide) ?_
    cases e
    exact V_zret (pc := 17) dX7_readLines_17 rfl hF
def F_X7_readLines_k3 (v0 : Nat) (v1 : Nat) (v2 : Nat) (v3 : Int32) (h : Hp) : Option (Int32 × Hp) := F_X7_readLines_k3_b0 v0 v1 v2 v3 h
theorem c_X7_readLines_k3 {l : Launch} (v0 : Nat) (v1 : Nat) (v2 : Nat) (v3 : Int32) (h : Hp) {r : Int32} {hz : Hp} (e : F_X7_readLines_k3 v0 v1 v2 v3 h = some (r, hz)) : Ct l yX7_readLines M_X7_readLines_k3 (some .boolean) 8 [.ref v0, .ref v1, .ref v2, .int v3] h 0 0 (some (.int r)) hz :=
  Ct_of rfl rfl (fun q => by cases q) (Nat.le_of_ble_eq_true rfl) (fun x _ hF => V_pick [0, 1, 2, 3] rfl (r_X7_readLines_k3_b0 v0 v1 v2 v3 h e hF))
theorem dX11_house_0 : decode cX11_house 0 = .ok (.aload_n 0, 1) := by decide +kernel
theorem dX11_house_1 : decode cX11_house 1 = .ok (.getfield 26, 3) := by decide +kernel
theorem dX11_house_4 : decode cX11_house 4 = .ok (.aload_n 0, 1) := by decide +kernel
theorem dX11_house_5 : decode cX11_house 5 = .ok (.getfield 19, 3) := by decide +kernel
theorem dX11_house_8 : decode cX11_house 8 = .ok (.invokevirtual 83, 3) := by decide +kernel
theorem dX11_house_11 : decode cX11_house 11 = .ok (.aload_n 0, 1) := by decide +kernel
theorem dX11_house_12 : decode cX11_house 12 = .ok (.getfield 26, 3) := by decide +kernel
theorem dX11_house_15 : decode cX11_house 15 = .ok (.aload_n 0, 1) := by decide +kernel
theorem dX11_house_16 : decode cX11_house 16 = .ok (.getfield 10, 3) := by decide +kernel
theorem dX11_house_19 : decode cX11_house 19 = .ok (.aload_n 0, 1) := by decide +kernel
theorem dX11_house_20 : decode cX11_house 20 = .ok (.getfield 19, 3) := by decide +kernel
theorem dX11_house_23 : decode cX11_house 23 = .ok (.bipush 14, 2) := by decide +kernel
theorem dX11_house_25 : decode cX11_house 25 = .ok (.invokevirtual 87, 3) := by decide +kernel
theorem dX11_house_28 : decode cX11_house 28 = .ok (.istore_n 1, 1) := by decide +kernel
theorem dX11_house_29 : decode cX11_house 29 = .ok (.aload_n 0, 1) := by decide +kernel
theorem dX11_house_30 : decode cX11_house 30 = .ok (.getfield 10, 3) := by decide +kernel
theorem dX11_house_33 : decode cX11_house 33 = .ok (.iconst 0, 1) := by decide +kernel
theorem dX11_house_34 : decode cX11_house 34 = .ok (.putfield 75, 3) := by decide +kernel
theorem dX11_house_37 : decode cX11_house 37 = .ok (.iload_n 1, 1) := by decide +kernel
theorem dX11_house_38 : decode cX11_house 38 = .ok (.ifCond .ne 13, 3) := by decide +kernel
theorem dX11_house_41 : decode cX11_house 41 = .ok (.new 91, 3) := by decide +kernel
theorem dX11_house_44 : decode cX11_house 44 = .ok (.dup, 1) := by decide +kernel
theorem dX11_house_45 : decode cX11_house 45 = .ok (.ldc 93, 2) := by decide +kernel
theorem dX11_house_47 : decode cX11_house 47 = .ok (.invokespecial 95, 3) := by decide +kernel
theorem dX11_house_50 : decode cX11_house 50 = .ok (.athrow, 1) := by decide +kernel
theorem dX11_house_51 : decode cX11_house 51 = .ok (.aload_n 0, 1) := by decide +kernel
theorem dX11_house_52 : decode cX11_house 52 = .ok (.getfield 19, 3) := by decide +kernel
theorem dX11_house_55 : decode cX11_house 55 = .ok (.getfield 98, 3) := by decide +kernel
theorem dX11_house_58 : decode cX11_house 58 = .ok (.bipush 10, 2) := by decide +kernel
theorem dX11_house_60 : decode cX11_house 60 = .ok (.if_icmp .lt 13, 3) := by decide +kernel
theorem dX11_house_63 : decode cX11_house 63 = .ok (.new 101, 3) := by decide +kernel
theorem dX11_house_66 : decode cX11_house 66 = .ok (.dup, 1) := by decide +kernel
theorem dX11_house_67 : decode cX11_house 67 = .ok (.ldc 103, 2) := by decide +kernel
theorem dX11_house_69 : decode cX11_house 69 = .ok (.invokespecial 105, 3) := by decide +kernel
theorem dX11_house_72 : decode cX11_house 72 = .ok (.athrow, 1) := by decide +kernel
theorem dX11_house_73 : decode cX11_house 73 = .ok (.aload_n 0, 1) := by decide +kernel
theorem dX11_house_74 : decode cX11_house 74 = .ok (.getfield 26, 3) := by decide +kernel
theorem dX11_house_77 : decode cX11_house 77 = .ok (.aload_n 0, 1) := by decide +kernel
theorem dX11_house_78 : decode cX11_house 78 = .ok (.getfield 19, 3) := by decide +kernel
theorem dX11_house_81 : decode cX11_house 81 = .ok (.invokevirtual 106, 3) := by decide +kernel
theorem dX11_house_84 : decode cX11_house 84 = .ok (.aload_n 0, 1) := by decide +kernel
theorem dX11_house_85 : decode cX11_house 85 = .ok (.getfield 19, 3) := by decide +kernel
theorem dX11_house_88 : decode cX11_house 88 = .ok (.dup, 1) := by decide +kernel
theorem dX11_house_89 : decode cX11_house 89 = .ok (.getfield 98, 3) := by decide +kernel
theorem dX11_house_92 : decode cX11_house 92 = .ok (.iconst 1, 1) := by decide +kernel
theorem dX11_house_93 : decode cX11_house 93 = .ok (.iadd, 1) := by decide +kernel
theorem dX11_house_94 : decode cX11_house 94 = .ok (.putfield 98, 3) := by decide +kernel
theorem dX11_house_97 : decode cX11_house 97 = .ok (.aload_n 0, 1) := by decide +kernel
theorem dX11_house_98 : decode cX11_house 98 = .ok (.getfield 19, 3) := by decide +kernel
theorem dX11_house_101 : decode cX11_house 101 = .ok (.getfield 98, 3) := by decide +kernel
theorem dX11_house_104 : decode cX11_house 104 = .ok (.ireturn, 1) := by decide +kernel
set_option maxRecDepth 100000 in
def F_X11_house_b0 (v0 : Nat) (h : Hp) : Option ((Int32 ⊕ Nat) × Hp × Nat × Nat) :=
  gd (decide (kd h v0 = 10)) <| ob (zR h v0 2) fun q2 => ob (zR h v0 1) fun q4 => ob2 (F_X3_countFrom q2 q4 h) fun _ h8 => gd (decide (kd h q2 = 3)) <| gd (decide (kd h8 v0 = 10)) <| ob (zR h8 v0 2) fun q11 => ob (zR h8 v0 0) fun q13 => ob (zR h8 v0 1) fun q15 => ob2 (F_X7_readLines_k3 q11 q13 q15 (14 : Int32) h8) fun r18 h19 => gd (decide (kd h8 q11 = 3)) <| gd (decide (kd h19 v0 = 10)) <| ob (zR h19 v0 0) fun q22 => gd (decide (kd h19 q22 = 6)) <| (if r18 = 0 then some (.inr 0, setI h19 q22 1 (0 : Int32), 1, 6) else ob (zR (setI h19 q22 1 (0 : Int32)) v0 1) fun q25 => gd (decide (kd (setI h19 q22 1 (0 : Int32)) q25 = 2)) <| (if (zI (setI h19 q22 1 (0 : Int32)) q25 14) < (10 : Int32) then ob (zR (setI h19 q22 1 (0 : Int32)) v0 2) fun q28 => ob (zR (setI h19 q22 1 (0 : Int32)) v0 1) fun q30 => ob2 (F_X3_tellTo q28 q30 (setI h19 q22 1 (0 : Int32))) fun _ h34 => gd (decide (kd (setI h19 q22 1 (0 : Int32)) q28 = 3)) <| gd (decide (kd h34 v0 = 10)) <| ob (zR h34 v0 1) fun q37 => gd (decide (kd h34 q37 = 2)) <| ob (zR (setI h34 q37 14 ((zI h34 q37 14) + (1 : Int32))) v0 1) fun q40 => gd (decide (kd (setI h34 q37 14 ((zI h34 q37 14) + (1 : Int32))) q40 = 2)) <| some (.inl (zI (setI h34 q37 14 ((zI h34 q37 14) + (1 : Int32))) q40 14), setI h34 q37 14 ((zI h34 q37 14) + (1 : Int32)), 0, 0) else some (.inr 1, setI h19 q22 1 (0 : Int32), 1, 6)))
set_option maxHeartbeats 4000000 in
set_option maxRecDepth 100000 in
theorem r_X11_house_b0 (v0 : Nat) (h : Hp) {x : Cx} {r : (Int32 ⊕ Nat)} {hz : Hp} {c9 s9 : Nat} (e : F_X11_house_b0 v0 h = some (r, hz, c9, s9)) (hF : FinO M_X11_house x (some .int) r hz) : V M_X11_house x 9 0 [(0, .ref v0)] [] h c9 s9 := by
  unfold F_X11_house_b0 at e
  refine V_aload_n (pc := 0) (i := 0) dX11_house_0 rfl rfl ?_
  replace e := gd_some e
  obtain ⟨g1, e⟩ := e
  replace e := ob_some e
  obtain ⟨q2, g3, e⟩ := e
  refine V_getR (pc := 1) (ci := 10) (k := 2) (b := q2) dX11_house_1 fl_X11_26 rfl (of_decide_eq_true g1) g3 ?_
  refine V_aload_n (pc := 4) (i := 0) dX11_house_4 rfl rfl ?_
  replace e := ob_some e
  obtain ⟨q4, g5, e⟩ := e
  refine V_getR (pc := 5) (ci := 10) (k := 1) (b := q4) dX11_house_5 fl_X11_19 rfl (of_decide_eq_true g1) g5 ?_
  replace e := ob2_some e
  obtain ⟨r7, h8, g6, e⟩ := e
  replace e := gd_some e
  obtain ⟨g9, e⟩ := e
  refine V_callV (pc := 8) (bc := c9) (bs := s9) (mc := 0) (ms := 0) (st := []) (As := [.ref q4]) (a := q2) (h' := h8) (r := none) dX11_house_8 ml_X11_83 (ci := 3) rfl (of_decide_eq_true g9) rfl rfl (Nat.le_of_ble_eq_true rfl) (d' := 0) (by decide) (c_X3_countFrom (l := x.2.1) q2 q4 h g6) ?_
  refine V_aload_n (pc := 11) (i := 0) dX11_house_11 rfl rfl ?_
  replace e := gd_some e
  obtain ⟨g10, e⟩ := e
  replace e := ob_some e
  obtain ⟨q11, g12, e⟩ := e
  refine V_getR (pc := 12) (ci := 10) (k := 2) (b := q11) dX11_house_12 fl_X11_26 rfl (of_decide_eq_true g10) g12 ?_
  refine V_aload_n (pc := 15) (i := 0) dX11_house_15 rfl rfl ?_
  replace e := ob_some e
  obtain ⟨q13, g14, e⟩ := e
  refine V_getR (pc := 16) (ci := 10) (k := 0) (b := q13) dX11_house_16 fl_X11_10 rfl (of_decide_eq_true g10) g14 ?_
  refine V_aload_n (pc := 19) (i := 0) dX11_house_19 rfl rfl ?_
  replace e := ob_some e
  obtain ⟨q15, g16, e⟩ := e
  refine V_getR (pc := 20) (ci := 10) (k := 1) (b := q15) dX11_house_20 fl_X11_19 rfl (of_decide_eq_true g10) g16 ?_
  refine V_bipush (pc := 23) (v := (14 : Int32)) dX11_house_23 (by decide) ?_
  replace e := ob2_some e
  obtain ⟨r18, h19, g17, e⟩ := e
  replace e := gd_some e
  obtain ⟨g20, e⟩ := e
  refine V_callU (pc := 25) (bc := c9) (bs := s9) (mc := 0) (ms := 0) (st := []) (As := [.ref q13, .ref q15, .int (14 : Int32)]) (a := q11) (h' := h19) (r := some (.int r18)) dX11_house_25 ml_X11_87 (ci := 3) rfl (of_decide_eq_true g20) rfl rfl (Nat.le_of_ble_eq_true rfl) (d' := 8) (by decide) (c_X7_readLines_k3 (l := x.2.1) q11 q13 q15 (14 : Int32) h8 g17) ?_
  refine V_istore_n (pc := 28) (i := 1) (lv' := [(1, .int r18), (0, .ref v0)]) dX11_house_28 rfl (by decide) rfl ?_
  refine V_aload_n (pc := 29) (i := 0) dX11_house_29 rfl rfl ?_
  replace e := gd_some e
  obtain ⟨g21, e⟩ := e
  replace e := ob_some e
  obtain ⟨q22, g23, e⟩ := e
  refine V_getR (pc := 30) (ci := 10) (k := 0) (b := q22) dX11_house_30 fl_X11_10 rfl (of_decide_eq_true g21) g23 ?_
  refine V_iconst (pc := 33) (v := (0 : Int32)) dX11_house_33 (by decide) ?_
  replace e := gd_some e
  obtain ⟨g24, e⟩ := e
  refine V_putI (pc := 34) (ci := 6) (k := 1) dX11_house_34 fp_X11_75 rfl (of_decide_eq_true g24) ?_
  refine V_iload_n (pc := 37) (i := 1) dX11_house_37 rfl rfl ?_
  refine V_if_ne (pc := 38) (tgt := 51) dX11_house_38 (by decide) (fun c44 => ?_) (fun c44 => ?_)
  · rw [if_neg c44] at e
    refine V_pick [1] rfl ?_
    refine V_aload_n (pc := 51) (i := 0) dX11_house_51 rfl rfl ?_
    replace e := ob_some e
    obtain ⟨q25, g26, e⟩ := e
    refine V_getR (pc := 52) (ci := 10) (k := 1) (b := q25) dX11_house_52 fl_X11_19 rfl (kd_sI (of_decide_eq_true g21)) g26 ?_
    replace e := gd_some e
    obtain ⟨g27, e⟩ := e
    refine V_getI (pc := 55) (ci := 2) (k := 14) dX11_house_55 fl_X11_98 rfl (of_decide_eq_true g27) ?_
    refine V_bipush (pc := 58) (v := (10 : Int32)) dX11_house_58 (by decide) ?_
    refine V_icmp_lt (pc := 60) (tgt := 73) dX11_house_60 (by decide) (fun c43 => ?_) (fun c43 => ?_)
    · rw [if_pos c43] at e
      refine V_pick [0] rfl ?_
      refine V_aload_n (pc := 73) (i := 0) dX11_house_73 rfl rfl ?_
      replace e := ob_some e
      obtain ⟨q28, g29, e⟩ := e
      refine V_getR (pc := 74) (ci := 10) (k := 2) (b := q28) dX11_house_74 fl_X11_26 rfl (kd_sI (of_decide_eq_true g21)) g29 ?_
      refine V_aload_n (pc := 77) (i := 0) dX11_house_77 rfl rfl ?_
      replace e := ob_some e
      obtain ⟨q30, g31, e⟩ := e
      refine V_getR (pc := 78) (ci := 10) (k := 1) (b := q30) dX11_house_78 fl_X11_19 rfl (kd_sI (of_decide_eq_true g21)) g31 ?_
      replace e := ob2_some e
      obtain ⟨r33, h34, g32, e⟩ := e
      replace e := gd_some e
      obtain ⟨g35, e⟩ := e
      refine V_callV (pc := 81) (bc := c9) (bs := s9) (mc := 0) (ms := 0) (st := []) (As := [.ref q30]) (a := q28) (h' := h34) (r := none) dX11_house_81 ml_X11_106 (ci := 3) rfl (of_decide_eq_true g35) rfl rfl (Nat.le_of_ble_eq_true rfl) (d' := 2) (by decide) (c_X3_tellTo (l := x.2.1) q28 q30 (setI h19 q22 1 (0 : Int32)) g32) ?_
      refine V_aload_n (pc := 84) (i := 0) dX11_house_84 rfl rfl ?_
      replace e := gd_some e
      obtain ⟨g36, e⟩ := e
      replace e := ob_some e
      obtain ⟨q37, g38, e⟩ := e
      refine V_getR (pc := 85) (ci := 10) (k := 1) (b := q37) dX11_house_85 fl_X11_19 rfl (of_decide_eq_true g36) g38 ?_
      refine V_dup (pc := 88) dX11_house_88 rfl ?_
      replace e := gd_some e
      obtain ⟨g39, e⟩ := e
      refine V_getI (pc := 89) (ci := 2) (k := 14) dX11_house_89 fl_X11_98 rfl (of_decide_eq_true g39) ?_
      refine V_iconst (pc := 92) (v := (1 : Int32)) dX11_house_92 (by decide) ?_
      refine V_iadd (pc := 93) dX11_house_93 ?_
      refine V_putI (pc := 94) (ci := 2) (k := 14) dX11_house_94 fp_X11_98 rfl (of_decide_eq_true g39) ?_
      refine V_aload_n (pc := 97) (i := 0) dX11_house_97 rfl rfl ?_
      replace e := ob_some e
      obtain ⟨q40, g41, e⟩ := e
      refine V_getR (pc := 98) (ci := 10) (k := 1) (b := q40) dX11_house_98 fl_X11_19 rfl (kd_sI (of_decide_eq_true g36)) g41 ?_
      replace e := gd_some e
      obtain ⟨g42, e⟩ := e
      refine V_getI (pc := 101) (ci := 2) (k := 14) dX11_house_101 fl_X11_98 rfl (of_decide_eq_true g42) ?_
      cases e
      exact V_iret (pc := 104) dX11_house_104 hF
    · rw [if_neg c43] at e
      refine V_pick [] rfl ?_
      cases e
      exact V_throw (pc := 63) (j := 27) hF th_X11_101_105 rfl (by decide) (Nat.le_of_ble_eq_true rfl) dX11_house_63 dX11_house_66 dX11_house_67 dX11_house_69 dX11_house_72
  · rw [if_pos c44] at e
    refine V_pick [] rfl ?_
    cases e
    exact V_throw (pc := 41) (j := 26) hF th_X11_91_95 rfl (by decide) (Nat.le_of_ble_eq_true rfl) dX11_house_41 dX11_house_44 dX11_house_45 dX11_house_47 dX11_house_50
def F_X11_house (v0 : Nat) (h : Hp) : Option ((Int32 ⊕ Nat) × Hp × Nat × Nat) := F_X11_house_b0 v0 h
theorem c_X11_house {l : Launch} (v0 : Nat) (h : Hp) {r : Int32} {hz : Hp} {c9 s9 : Nat} (e : F_X11_house v0 h = some (.inl r, hz, c9, s9)) : Ct l yX11_house M_X11_house (some .int) 9 [.ref v0] h c9 s9 (some (.int r)) hz :=
  Ct_of rfl rfl (fun q => by cases q) (Nat.le_of_ble_eq_true rfl) (fun x _ hF => V_pick [0] rfl (r_X11_house_b0 v0 h e hF))
theorem cX_X11_house {l : Launch} (hst : l.stackTraces = false) (v0 : Nat) (h : Hp) {k : Nat} {hz : Hp} {c9 s9 : Nat} (e : F_X11_house v0 h = some (.inr k, hz, c9, s9)) : CtX l yX11_house M_X11_house (some .int) 9 [.ref v0] h c9 s9 (exN k) hz :=
  CtX_of hst rfl rfl (fun q => by cases q) (Nat.le_of_ble_eq_true rfl) (fun x _ hF => V_pick [0] rfl (r_X11_house_b0 v0 h e hF))
theorem dX11_day_0 : decode cX11_day 0 = .ok (.iload_n 1, 1) := by decide +kernel
theorem dX11_day_1 : decode cX11_day 1 = .ok (.ifCond .lt 8, 3) := by decide +kernel
theorem dX11_day_4 : decode cX11_day 4 = .ok (.iload_n 1, 1) := by decide +kernel
theorem dX11_day_5 : decode cX11_day 5 = .ok (.iconst 3, 1) := by decide +kernel
theorem dX11_day_6 : decode cX11_day 6 = .ok (.if_icmp .le 13, 3) := by decide +kernel
theorem dX11_day_9 : decode cX11_day 9 = .ok (.new 182, 3) := by decide +kernel
theorem dX11_day_12 : decode cX11_day 12 = .ok (.dup, 1) := by decide +kernel
theorem dX11_day_13 : decode cX11_day 13 = .ok (.ldc 184, 2) := by decide +kernel
theorem dX11_day_15 : decode cX11_day 15 = .ok (.invokespecial 186, 3) := by decide +kernel
theorem dX11_day_18 : decode cX11_day 18 = .ok (.athrow, 1) := by decide +kernel
theorem dX11_day_19 : decode cX11_day 19 = .ok (.aload_n 0, 1) := by decide +kernel
theorem dX11_day_20 : decode cX11_day 20 = .ok (.getfield 68, 3) := by decide +kernel
theorem dX11_day_23 : decode cX11_day 23 = .ok (.aload_n 0, 1) := by decide +kernel
theorem dX11_day_24 : decode cX11_day 24 = .ok (.getfield 19, 3) := by decide +kernel
theorem dX11_day_27 : decode cX11_day 27 = .ok (.invokevirtual 227, 3) := by decide +kernel
theorem dX11_day_30 : decode cX11_day 30 = .ok (.iload_n 1, 1) := by decide +kernel
theorem dX11_day_31 : decode cX11_day 31 = .ok (.tableswitch 56 0 2 #[25, 33, 41], 25) := by decide +kernel
theorem dX11_day_56 : decode cX11_day 56 = .ok (.aload_n 0, 1) := by decide +kernel
theorem dX11_day_57 : decode cX11_day 57 = .ok (.getfield 68, 3) := by decide +kernel
theorem dX11_day_60 : decode cX11_day 60 = .ok (.getfield 230, 3) := by decide +kernel
theorem dX11_day_63 : decode cX11_day 63 = .ok (.ireturn, 1) := by decide +kernel
theorem dX11_day_64 : decode cX11_day 64 = .ok (.aload_n 0, 1) := by decide +kernel
theorem dX11_day_65 : decode cX11_day 65 = .ok (.getfield 68, 3) := by decide +kernel
theorem dX11_day_68 : decode cX11_day 68 = .ok (.getfield 233, 3) := by decide +kernel
theorem dX11_day_71 : decode cX11_day 71 = .ok (.ireturn, 1) := by decide +kernel
theorem dX11_day_72 : decode cX11_day 72 = .ok (.aload_n 0, 1) := by decide +kernel
theorem dX11_day_73 : decode cX11_day 73 = .ok (.getfield 19, 3) := by decide +kernel
theorem dX11_day_76 : decode cX11_day 76 = .ok (.aload_n 0, 1) := by decide +kernel
theorem dX11_day_77 : decode cX11_day 77 = .ok (.getfield 68, 3) := by decide +kernel
theorem dX11_day_80 : decode cX11_day 80 = .ok (.getfield 236, 3) := by decide +kernel
theorem dX11_day_83 : decode cX11_day 83 = .ok (.invokevirtual 217, 3) := by decide +kernel
theorem dX11_day_86 : decode cX11_day 86 = .ok (.ireturn, 1) := by decide +kernel
theorem dX11_day_87 : decode cX11_day 87 = .ok (.aload_n 0, 1) := by decide +kernel
theorem dX11_day_88 : decode cX11_day 88 = .ok (.getfield 68, 3) := by decide +kernel
theorem dX11_day_91 : decode cX11_day 91 = .ok (.getfield 237, 3) := by decide +kernel
theorem dX11_day_94 : decode cX11_day 94 = .ok (.iconst 0, 1) := by decide +kernel
theorem dX11_day_95 : decode cX11_day 95 = .ok (.invokevirtual 187, 3) := by decide +kernel
theorem dX11_day_98 : decode cX11_day 98 = .ok (.ifCond .eq 18, 3) := by decide +kernel
theorem dX11_day_101 : decode cX11_day 101 = .ok (.aload_n 0, 1) := by decide +kernel
theorem dX11_day_102 : decode cX11_day 102 = .ok (.getfield 68, 3) := by decide +kernel
theorem dX11_day_105 : decode cX11_day 105 = .ok (.getfield 237, 3) := by decide +kernel
theorem dX11_day_108 : decode cX11_day 108 = .ok (.getfield 198, 3) := by decide +kernel
theorem dX11_day_111 : decode cX11_day 111 = .ok (.iconst 0, 1) := by decide +kernel
theorem dX11_day_112 : decode cX11_day 112 = .ok (.iaload, 1) := by decide +kernel
theorem dX11_day_113 : decode cX11_day 113 = .ok (.goto 4, 3) := by decide +kernel
theorem dX11_day_116 : decode cX11_day 116 = .ok (.iconst (-1), 1) := by decide +kernel
theorem dX11_day_117 : decode cX11_day 117 = .ok (.ireturn, 1) := by decide +kernel
set_option maxRecDepth 100000 in
def F_X11_day_b9  (h : Hp) : Option ((Int32 ⊕ Nat) × Hp × Nat × Nat) :=
  some (.inr 3, h, 1, 6)
set_option maxHeartbeats 4000000 in
set_option maxRecDepth 100000 in
theorem r_X11_day_b9  (h : Hp) {x : Cx} {r : (Int32 ⊕ Nat)} {hz : Hp} {c9 s9 : Nat} (e : F_X11_day_b9  h = some (r, hz, c9, s9)) (hF : FinO M_X11_day x (some .int) r hz) : V M_X11_day x 8 9 [] [] h c9 s9 := by
  unfold F_X11_day_b9 at e
  cases e
  exact V_throwN (pc := 9) (L := 15) (j := 30) hF th_X11_182_186 rfl (by decide) (Nat.le_of_ble_eq_true rfl) dX11_day_9 dX11_day_12 (Or.inl ⟨dX11_day_13, rfl⟩) dX11_day_15 dX11_day_18
set_option maxRecDepth 100000 in
def F_X11_day_b117 (t0 : Int32) (h : Hp) : Option ((Int32 ⊕ Nat) × Hp × Nat × Nat) :=
  some (.inl t0, h, 0, 0)
set_option maxHeartbeats 4000000 in
set_option maxRecDepth 100000 in
theorem r_X11_day_b117 (t0 : Int32) (h : Hp) {x : Cx} {r : (Int32 ⊕ Nat)} {hz : Hp} {c9 s9 : Nat} (e : F_X11_day_b117 t0 h = some (r, hz, c9, s9)) (hF : FinO M_X11_day x (some .int) r hz) : V M_X11_day x 8 117 [] [.int t0] h c9 s9 := by
  unfold F_X11_day_b117 at e
  cases e
  exact V_iret (pc := 117) dX11_day_117 hF
set_option maxRecDepth 100000 in
def F_X11_day_b0 (v0 : Nat) (v1 : Int32) (h : Hp) : Option ((Int32 ⊕ Nat) × Hp × Nat × Nat) :=
  (if v1 < 0 then F_X11_day_b9 h else (if v1 ≤ (3 : Int32) then gd (decide (kd h v0 = 10)) <| ob (zR h v0 8) fun q2 => ob (zR h v0 1) fun q4 => ob2 (F_X1_pass q2 q4 h) fun _ h8 => gd (decide (kd h q2 = 1)) <| (if v1 = (0 : Int32) then gd (decide (kd h8 v0 = 10)) <| ob (zR h8 v0 8) fun q11 => gd (decide (kd h8 q11 = 1)) <| some (.inl (zI h8 q11 2), h8, 0, 0) else if v1 = (1 : Int32) then gd (decide (kd h8 v0 = 10)) <| ob (zR h8 v0 8) fun q16 => gd (decide (kd h8 q16 = 1)) <| some (.inl (zI h8 q16 3), h8, 0, 0) else if v1 = (2 : Int32) then gd (decide (kd h8 v0 = 10)) <| ob (zR h8 v0 1) fun q21 => ob (zR h8 v0 8) fun q23 => gd (decide (kd h8 q23 = 1)) <| ob (zR h8 q23 0) fun q26 => ob (F_X2_asNumber q21 q26 h8) fun r29 => gd (decide (kd h8 q21 = 2)) <| some (.inl r29, h8, 0, 0) else gd (decide (kd h8 v0 = 10)) <| ob (zR h8 v0 8) fun q33 => gd (decide (kd h8 q33 = 1)) <| ob (zR h8 q33 1) fun q36 => ob (F_X8_has q36 (0 : Int32) h8) fun r39 => gd (decide (kd h8 q36 = 7)) <| (if r39 = 0 then F_X11_day_b117 (-1 : Int32) h8 else ob (zR h8 v0 8) fun q41 => gd (decide (kd h8 q41 = 1)) <| ob (zR h8 q41 1) fun q44 => gd (decide (kd h8 q44 = 7)) <| ob (zR h8 q44 3) fun q47 => gd (decide (kd h8 q47 = 13)) <| gd (ix (0 : Int32) (zl h8 q47)) <| F_X11_day_b117 (zI h8 q47 ((0 : Int32)).toNatClampNeg) h8)) else F_X11_day_b9 h))
set_option maxHeartbeats 4000000 in
set_option maxRecDepth 100000 in
theorem r_X11_day_b0 (v0 : Nat) (v1 : Int32) (h : Hp) {x : Cx} {r : (Int32 ⊕ Nat)} {hz : Hp} {c9 s9 : Nat} (e : F_X11_day_b0 v0 v1 h = some (r, hz, c9, s9)) (hF : FinO M_X11_day x (some .int) r hz) : V M_X11_day x 8 0 [(0, .ref v0), (1, .int v1)] [] h c9 s9 := by
  unfold F_X11_day_b0 at e
  refine V_iload_n (pc := 0) (i := 1) dX11_day_0 rfl rfl ?_
  refine V_if_lt (pc := 1) (tgt := 9) dX11_day_1 (by decide) (fun c53 => ?_) (fun c53 => ?_)
  · rw [if_pos c53] at e
    exact V_pick [] rfl (r_X11_day_b9 h e hF)
  · rw [if_neg c53] at e
    refine V_pick [0, 1] rfl ?_
    refine V_iload_n (pc := 4) (i := 1) dX11_day_4 rfl rfl ?_
    refine V_iconst (pc := 5) (v := (3 : Int32)) dX11_day_5 (by decide) ?_
    refine V_icmp_le (pc := 6) (tgt := 19) dX11_day_6 (by decide) (fun c52 => ?_) (fun c52 => ?_)
    · rw [if_pos c52] at e
      refine V_pick [0, 1] rfl ?_
      refine V_aload_n (pc := 19) (i := 0) dX11_day_19 rfl rfl ?_
      replace e := gd_some e
      obtain ⟨g1, e⟩ := e
      replace e := ob_some e
      obtain ⟨q2, g3, e⟩ := e
      refine V_getR (pc := 20) (ci := 10) (k := 8) (b := q2) dX11_day_20 fl_X11_68 rfl (of_decide_eq_true g1) g3 ?_
      refine V_aload_n (pc := 23) (i := 0) dX11_day_23 rfl rfl ?_
      replace e := ob_some e
      obtain ⟨q4, g5, e⟩ := e
      refine V_getR (pc := 24) (ci := 10) (k := 1) (b := q4) dX11_day_24 fl_X11_19 rfl (of_decide_eq_true g1) g5 ?_
      replace e := ob2_some e
      obtain ⟨r7, h8, g6, e⟩ := e
      replace e := gd_some e
      obtain ⟨g9, e⟩ := e
      refine V_callV (pc := 27) (bc := c9) (bs := s9) (mc := 0) (ms := 0) (st := []) (As := [.ref q4]) (a := q2) (h' := h8) (r := none) dX11_day_27 ml_X11_227 (ci := 1) rfl (of_decide_eq_true g9) rfl rfl (Nat.le_of_ble_eq_true rfl) (d' := 3) (by decide) (c_X1_pass (l := x.2.1) q2 q4 h g6) ?_
      refine V_iload_n (pc := 30) (i := 1) dX11_day_30 rfl rfl ?_
      by_cases c14 : v1 = (0 : Int32)
      · rw [if_pos c14] at e
        refine V_tableIn (pc := 31) (tgt := 56) dX11_day_31 (by rw [c14]; decide) (by rw [c14]; decide) (by rw [c14]; rfl) (by decide) ?_
        refine V_pick [0] rfl ?_
        refine V_aload_n (pc := 56) (i := 0) dX11_day_56 rfl rfl ?_
        replace e := gd_some e
        obtain ⟨g10, e⟩ := e
        replace e := ob_some e
        obtain ⟨q11, g12, e⟩ := e
        refine V_getR (pc := 57) (ci := 10) (k := 8) (b := q11) dX11_day_57 fl_X11_68 rfl (of_decide_eq_true g10) g12 ?_
        replace e := gd_some e
        obtain ⟨g13, e⟩ := e
        refine V_getI (pc := 60) (ci := 1) (k := 2) dX11_day_60 fl_X11_230 rfl (of_decide_eq_true g13) ?_
        cases e
        exact V_iret (pc := 63) dX11_day_63 hF
      · rw [if_neg c14] at e
        by_cases c19 : v1 = (1 : Int32)
        · rw [if_pos c19] at e
          refine V_tableIn (pc := 31) (tgt := 64) dX11_day_31 (by rw [c19]; decide) (by rw [c19]; decide) (by rw [c19]; rfl) (by decide) ?_
          refine V_pick [0] rfl ?_
          refine V_aload_n (pc := 64) (i := 0) dX11_day_64 rfl rfl ?_
          replace e := gd_some e
          obtain ⟨g15, e⟩ := e
          replace e := ob_some e
          obtain ⟨q16, g17, e⟩ := e
          refine V_getR (pc := 65) (ci := 10) (k := 8) (b := q16) dX11_day_65 fl_X11_68 rfl (of_decide_eq_true g15) g17 ?_
          replace e := gd_some e
          obtain ⟨g18, e⟩ := e
          refine V_getI (pc := 68) (ci := 1) (k := 3) dX11_day_68 fl_X11_233 rfl (of_decide_eq_true g18) ?_
          cases e
          exact V_iret (pc := 71) dX11_day_71 hF
        · rw [if_neg c19] at e
          by_cases c31 : v1 = (2 : Int32)
          · rw [if_pos c31] at e
            refine V_tableIn (pc := 31) (tgt := 72) dX11_day_31 (by rw [c31]; decide) (by rw [c31]; decide) (by rw [c31]; rfl) (by decide) ?_
            refine V_pick [0] rfl ?_
            refine V_aload_n (pc := 72) (i := 0) dX11_day_72 rfl rfl ?_
            replace e := gd_some e
            obtain ⟨g20, e⟩ := e
            replace e := ob_some e
            obtain ⟨q21, g22, e⟩ := e
            refine V_getR (pc := 73) (ci := 10) (k := 1) (b := q21) dX11_day_73 fl_X11_19 rfl (of_decide_eq_true g20) g22 ?_
            refine V_aload_n (pc := 76) (i := 0) dX11_day_76 rfl rfl ?_
            replace e := ob_some e
            obtain ⟨q23, g24, e⟩ := e
            refine V_getR (pc := 77) (ci := 10) (k := 8) (b := q23) dX11_day_77 fl_X11_68 rfl (of_decide_eq_true g20) g24 ?_
            replace e := gd_some e
            obtain ⟨g25, e⟩ := e
            replace e := ob_some e
            obtain ⟨q26, g27, e⟩ := e
            refine V_getR (pc := 80) (ci := 1) (k := 0) (b := q26) dX11_day_80 fl_X11_236 rfl (of_decide_eq_true g25) g27 ?_
            replace e := ob_some e
            obtain ⟨r29, g28, e⟩ := e
            replace e := gd_some e
            obtain ⟨g30, e⟩ := e
            refine V_callV (pc := 83) (bc := c9) (bs := s9) (mc := 0) (ms := 0) (st := []) (As := [.ref q26]) (a := q21) (h' := h8) (r := some (.int r29)) dX11_day_83 ml_X11_217 (ci := 2) rfl (of_decide_eq_true g30) rfl rfl (Nat.le_of_ble_eq_true rfl) (d' := 0) (by decide) (c_X2_asNumber (l := x.2.1) q21 q26 h8 g28) ?_
            cases e
            exact V_iret (pc := 86) dX11_day_86 hF
          · rw [if_neg c31] at e
            refine V_tableOut (pc := 31) (tgt := 87) dX11_day_31 (by have q0 := tI_ne c14 (z := 0) (by decide); have q1 := tI_ne c19 (z := 1) (by decide); have q2 := tI_ne c31 (z := 2) (by decide); omega) (by decide) ?_
            refine V_pick [0] rfl ?_
            refine V_aload_n (pc := 87) (i := 0) dX11_day_87 rfl rfl ?_
            replace e := gd_some e
            obtain ⟨g32, e⟩ := e
            replace e := ob_some e
            obtain ⟨q33, g34, e⟩ := e
            refine V_getR (pc := 88) (ci := 10) (k := 8) (b := q33) dX11_day_88 fl_X11_68 rfl (of_decide_eq_true g32) g34 ?_
            replace e := gd_some e
            obtain ⟨g35, e⟩ := e
            replace e := ob_some e
            obtain ⟨q36, g37, e⟩ := e
            refine V_getR (pc := 91) (ci := 1) (k := 1) (b := q36) dX11_day_91 fl_X11_237 rfl (of_decide_eq_true g35) g37 ?_
            refine V_iconst (pc := 94) (v := (0 : Int32)) dX11_day_94 (by decide) ?_
            replace e := ob_some e
            obtain ⟨r39, g38, e⟩ := e
            replace e := gd_some e
            obtain ⟨g40, e⟩ := e
            refine V_callV (pc := 95) (bc := c9) (bs := s9) (mc := 0) (ms := 0) (st := []) (As := [.int (0 : Int32)]) (a := q36) (h' := h8) (r := some (.int r39)) dX11_day_95 ml_X11_187 (ci := 7) rfl (of_decide_eq_true g40) rfl rfl (Nat.le_of_ble_eq_true rfl) (d' := 0) (by decide) (c_X8_has (l := x.2.1) q36 (0 : Int32) h8 g38) ?_
            refine V_if_eq (pc := 98) (tgt := 116) dX11_day_98 (by decide) (fun c51 => ?_) (fun c51 => ?_)
            · rw [if_pos c51] at e
              refine V_pick [] rfl ?_
              refine V_iconst (pc := 116) (v := (-1 : Int32)) dX11_day_116 (by decide) ?_
              exact V_pick [] rfl (r_X11_day_b117 (-1 : Int32) h8 e hF)
            · rw [if_neg c51] at e
              refine V_pick [0] rfl ?_
              refine V_aload_n (pc := 101) (i := 0) dX11_day_101 rfl rfl ?_
              replace e := ob_some e
              obtain ⟨q41, g42, e⟩ := e
              refine V_getR (pc := 102) (ci := 10) (k := 8) (b := q41) dX11_day_102 fl_X11_68 rfl (of_decide_eq_true g32) g42 ?_
              replace e := gd_some e
              obtain ⟨g43, e⟩ := e
              replace e := ob_some e
              obtain ⟨q44, g45, e⟩ := e
              refine V_getR (pc := 105) (ci := 1) (k := 1) (b := q44) dX11_day_105 fl_X11_237 rfl (of_decide_eq_true g43) g45 ?_
              replace e := gd_some e
              obtain ⟨g46, e⟩ := e
              replace e := ob_some e
              obtain ⟨q47, g48, e⟩ := e
              refine V_getR (pc := 108) (ci := 7) (k := 3) (b := q47) dX11_day_108 fl_X11_198 rfl (of_decide_eq_true g46) g48 ?_
              refine V_iconst (pc := 111) (v := (0 : Int32)) dX11_day_111 (by decide) ?_
              replace e := gd_some e
              obtain ⟨g49, e⟩ := e
              replace e := gd_some e
              obtain ⟨g50, e⟩ := e
              refine V_iald (pc := 112) dX11_day_112 (of_decide_eq_true g49) (ix_in g50) ?_
              refine V_goto (pc := 113) (tgt := 117) dX11_day_113 (by decide) ?_
              exact V_pick [] rfl (r_X11_day_b117 (zI h8 q47 ((0 : Int32)).toNatClampNeg) h8 e hF)
    · rw [if_neg c52] at e
      exact V_pick [] rfl (r_X11_day_b9 h e hF)
def F_X11_day (v0 : Nat) (v1 : Int32) (h : Hp) : Option ((Int32 ⊕ Nat) × Hp × Nat × Nat) := F_X11_day_b0 v0 v1 h
theorem c_X11_day {l : Launch} (v0 : Nat) (v1 : Int32) (h : Hp) {r : Int32} {hz : Hp} {c9 s9 : Nat} (e : F_X11_day v0 v1 h = some (.inl r, hz, c9, s9)) : Ct l yX11_day M_X11_day (some .int) 8 [.ref v0, .int v1] h c9 s9 (some (.int r)) hz :=
  Ct_of rfl rfl (fun q => by cases q) (Nat.le_of_ble_eq_true rfl) (fun x _ hF => V_pick [0, 1] rfl (r_X11_day_b0 v0 v1 h e hF))
theorem cX_X11_day {l : Launch} (hst : l.stackTraces = false) (v0 : Nat) (v1 : Int32) (h : Hp) {k : Nat} {hz : Hp} {c9 s9 : Nat} (e : F_X11_day v0 v1 h = some (.inr k, hz, c9, s9)) : CtX l yX11_day M_X11_day (some .int) 8 [.ref v0, .int v1] h c9 s9 (exN k) hz :=
  CtX_of hst rfl rfl (fun q => by cases q) (Nat.le_of_ble_eq_true rfl) (fun x _ hF => V_pick [0, 1] rfl (r_X11_day_b0 v0 v1 h e hF))
theorem dX11_live_0 : decode cX11_live 0 = .ok (.aload_n 0, 1) := by decide +kernel
theorem dX11_live_1 : decode cX11_live 1 = .ok (.getfield 68, 3) := by decide +kernel
theorem dX11_live_4 : decode cX11_live 4 = .ok (.aload_n 0, 1) := by decide +kernel
theorem dX11_live_5 : decode cX11_live 5 = .ok (.getfield 19, 3) := by decide +kernel
theorem dX11_live_8 : decode cX11_live 8 = .ok (.invokevirtual 227, 3) := by decide +kernel
theorem dX11_live_11 : decode cX11_live 11 = .ok (.aload_n 0, 1) := by decide +kernel
theorem dX11_live_12 : decode cX11_live 12 = .ok (.getfield 68, 3) := by decide +kernel
theorem dX11_live_15 : decode cX11_live 15 = .ok (.getfield 236, 3) := by decide +kernel
theorem dX11_live_18 : decode cX11_live 18 = .ok (.iconst 0, 1) := by decide +kernel
theorem dX11_live_19 : decode cX11_live 19 = .ok (.aload_n 0, 1) := by decide +kernel
theorem dX11_live_20 : decode cX11_live 20 = .ok (.getfield 19, 3) := by decide +kernel
theorem dX11_live_23 : decode cX11_live 23 = .ok (.getfield 166, 3) := by decide +kernel
theorem dX11_live_26 : decode cX11_live 26 = .ok (.iconst 0, 1) := by decide +kernel
theorem dX11_live_27 : decode cX11_live 27 = .ok (.iconst 5, 1) := by decide +kernel
theorem dX11_live_28 : decode cX11_live 28 = .ok (.invokestatic 238, 3) := by decide +kernel
theorem dX11_live_31 : decode cX11_live 31 = .ok (.aload_n 0, 1) := by decide +kernel
theorem dX11_live_32 : decode cX11_live 32 = .ok (.getfield 19, 3) := by decide +kernel
theorem dX11_live_35 : decode cX11_live 35 = .ok (.getfield 173, 3) := by decide +kernel
theorem dX11_live_38 : decode cX11_live 38 = .ok (.aload_n 0, 1) := by decide +kernel
theorem dX11_live_39 : decode cX11_live 39 = .ok (.getfield 68, 3) := by decide +kernel
theorem dX11_live_42 : decode cX11_live 42 = .ok (.getfield 237, 3) := by decide +kernel
theorem dX11_live_45 : decode cX11_live 45 = .ok (.invokevirtual 244, 3) := by decide +kernel
theorem dX11_live_48 : decode cX11_live 48 = .ok (.aload_n 0, 1) := by decide +kernel
theorem dX11_live_49 : decode cX11_live 49 = .ok (.getfield 68, 3) := by decide +kernel
theorem dX11_live_52 : decode cX11_live 52 = .ok (.getfield 230, 3) := by decide +kernel
theorem dX11_live_55 : decode cX11_live 55 = .ok (.ireturn, 1) := by decide +kernel
set_option maxRecDepth 100000 in
def F_X11_live_b0 (v0 : Nat) (h : Hp) : Option (Int32 × Hp) :=
  gd (decide (kd h v0 = 10)) <| ob (zR h v0 8) fun q2 => ob (zR h v0 1) fun q4 => ob2 (F_X1_pass q2 q4 h) fun _ h8 => gd (decide (kd h q2 = 1)) <| gd (decide (kd h8 v0 = 10)) <| ob (zR h8 v0 8) fun q11 => gd (decide (kd h8 q11 = 1)) <| ob (zR h8 q11 0) fun q14 => ob (zR h8 v0 1) fun q16 => gd (decide (kd h8 q16 = 2)) <| ob (zR h8 q16 7) fun q19 => gd (decide (kd h8 q14 = 13)) <| gd (decide (kd h8 q19 = 13)) <| gd (cpk (0 : Int32) (0 : Int32) (5 : Int32) (zl h8 q14) (zl h8 q19)) <| ob (zR (cpA h8 q14 (0 : Int32) q19 (0 : Int32) (5 : Int32)) v0 1) fun q24 => gd (decide (kd (cpA h8 q14 (0 : Int32) q19 (0 : Int32) (5 : Int32)) q24 = 2)) <| ob (zR (cpA h8 q14 (0 : Int32) q19 (0 : Int32) (5 : Int32)) q24 9) fun q27 => ob (zR (cpA h8 q14 (0 : Int32) q19 (0 : Int32) (5 : Int32)) v0 8) fun q29 => gd (decide (kd (cpA h8 q14 (0 : Int32) q19 (0 : Int32) (5 : Int32)) q29 = 1)) <| ob (zR (cpA h8 q14 (0 : Int32) q19 (0 : Int32) (5 : Int32)) q29 1) fun q32 => ob2 (F_X8_copyFrom q27 q32 (cpA h8 q14 (0 : Int32) q19 (0 : Int32) (5 : Int32))) fun _ h36 => gd (decide (kd (cpA h8 q14 (0 : Int32) q19 (0 : Int32) (5 : Int32)) q27 = 7)) <| gd (decide (kd h36 v0 = 10)) <| ob (zR h36 v0 8) fun q39 => gd (decide (kd h36 q39 = 1)) <| some (zI h36 q39 2, h36)
set_option maxHeartbeats 4000000 in
set_option maxRecDepth 100000 in
theorem r_X11_live_b0 (v0 : Nat) (h : Hp) {x : Cx} {r : Int32} {hz : Hp} (e : F_X11_live_b0 v0 h = some (r, hz)) (hF : Fin9 M_X11_live x (some .int) (some (.int r)) hz) : V M_X11_live x 4 0 [(0, .ref v0)] [] h 0 0 := by
  unfold F_X11_live_b0 at e
  refine V_aload_n (pc := 0) (i := 0) dX11_live_0 rfl rfl ?_
  obtain ⟨g1, e⟩ := gd_some e
  obtain ⟨q2, g3, e⟩ := ob_some e
  refine V_getR (pc := 1) (ci := 10) (k := 8) (b := q2) dX11_live_1 fl_X11_68 rfl (of_decide_eq_true g1) g3 ?_
  refine V_aload_n (pc := 4) (i := 0) dX11_live_4 rfl rfl ?_
  obtain ⟨q4, g5, e⟩ := ob_some e
  refine V_getR (pc := 5) (ci := 10) (k := 1) (b := q4) dX11_live_5 fl_X11_19 rfl (of_decide_eq_true g1) g5 ?_
  obtain ⟨r7, h8, g6, e⟩ := ob2_some e
  obtain ⟨g9, e⟩ := gd_some e
  refine V_callV (pc := 8) (bc := 0) (bs := 0) (mc := 0) (ms := 0) (st := []) (As := [.ref q4]) (a := q2) (h' := h8) (r := none) dX11_live_8 ml_X11_227 (ci := 1) rfl (of_decide_eq_true g9) rfl rfl (Nat.le_of_ble_eq_true rfl) (d' := 3) (by decide) (c_X1_pass (l := x.2.1) q2 q4 h g6) ?_
  refine V_aload_n (pc := 11) (i := 0) dX11_live_11 rfl rfl ?_
  obtain ⟨g10, e⟩ := gd_some e
  obtain ⟨q11, g12, e⟩ := ob_some e
  refine V_getR (pc := 12) (ci := 10) (k := 8) (b := q11) dX11_live_12 fl_X11_68 rfl (of_decide_eq_true g10) g12 ?_
  obtain ⟨g13, e⟩ := gd_some e
  obtain ⟨q14, g15, e⟩ := ob_some e
  refine V_getR (pc := 15) (ci := 1) (k := 0) (b := q14) dX11_live_15 fl_X11_236 rfl (of_decide_eq_true g13) g15 ?_
  refine V_iconst (pc := 18) (v := (0 : Int32)) dX11_live_18 (by decide) ?_
  refine V_aload_n (pc := 19) (i := 0) dX11_live_19 rfl rfl ?_
  obtain ⟨q16, g17, e⟩ := ob_some e
  refine V_getR (pc := 20) (ci := 10) (k := 1) (b := q16) dX11_live_20 fl_X11_19 rfl (of_decide_eq_true g10) g17 ?_
  obtain ⟨g18, e⟩ := gd_some e
  obtain ⟨q19, g20, e⟩ := ob_some e
  refine V_getR (pc := 23) (ci := 2) (k := 7) (b := q19) dX11_live_23 fl_X11_166 rfl (of_decide_eq_true g18) g20 ?_
  refine V_iconst (pc := 26) (v := (0 : Int32)) dX11_live_26 (by decide) ?_
  refine V_iconst (pc := 27) (v := (5 : Int32)) dX11_live_27 (by decide) ?_
  obtain ⟨g21, e⟩ := gd_some e
  obtain ⟨g22, e⟩ := gd_some e
  obtain ⟨g23, e⟩ := gd_some e
  refine V_copy (pc := 28) dX11_live_28 wm_X11_238 (of_decide_eq_true g21) (of_decide_eq_true g22) g23 (by decide) (Nat.le_of_ble_eq_true rfl) ?_
  refine V_aload_n (pc := 31) (i := 0) dX11_live_31 rfl rfl ?_
  obtain ⟨q24, g25, e⟩ := ob_some e
  refine V_getR (pc := 32) (ci := 10) (k := 1) (b := q24) dX11_live_32 fl_X11_19 rfl (kd_sC (of_decide_eq_true g10)) g25 ?_
  obtain ⟨g26, e⟩ := gd_some e
  obtain ⟨q27, g28, e⟩ := ob_some e
  refine V_getR (pc := 35) (ci := 2) (k := 9) (b := q27) dX11_live_35 fl_X11_173 rfl (of_decide_eq_true g26) g28 ?_
  refine V_aload_n (pc := 38) (i := 0) dX11_live_38 rfl rfl ?_
  obtain ⟨q29, g30, e⟩ := ob_some e
  refine V_getR (pc := 39) (ci := 10) (k := 8) (b := q29) dX11_live_39 fl_X11_68 rfl (kd_sC (of_decide_eq_true g10)) g30 ?_
  obtain ⟨g31, e⟩ := gd_some e
  obtain ⟨q32, g33, e⟩ := ob_some e
  refine V_getR (pc := 42) (ci := 1) (k := 1) (b := q32) dX11_live_42 fl_X11_237 rfl (of_decide_eq_true g31) g33 ?_
  obtain ⟨r35, h36, g34, e⟩ := ob2_some e
  obtain ⟨g37, e⟩ := gd_some e
  refine V_callV (pc := 45) (bc := 0) (bs := 0) (mc := 0) (ms := 0) (st := []) (As := [.ref q32]) (a := q27) (h' := h36) (r := none) dX11_live_45 ml_X11_244 (ci := 7) rfl (of_decide_eq_true g37) rfl rfl (Nat.le_of_ble_eq_true rfl) (d' := 1) (by decide) (c_X8_copyFrom (l := x.2.1) q27 q32 (cpA h8 q14 (0 : Int32) q19 (0 : Int32) (5 : Int32)) g34) ?_
  refine V_aload_n (pc := 48) (i := 0) dX11_live_48 rfl rfl ?_
  obtain ⟨g38, e⟩ := gd_some e
  obtain ⟨q39, g40, e⟩ := ob_some e
  refine V_getR (pc := 49) (ci := 10) (k := 8) (b := q39) dX11_live_49 fl_X11_68 rfl (of_decide_eq_true g38) g40 ?_
  obtain ⟨g41, e⟩ := gd_some e
  refine V_getI (pc := 52) (ci := 1) (k := 2) dX11_live_52 fl_X11_230 rfl (of_decide_eq_true g41) ?_
  cases e
  exact V_iret (pc := 55) dX11_live_55 hF
def F_X11_live (v0 : Nat) (h : Hp) : Option (Int32 × Hp) := F_X11_live_b0 v0 h
theorem c_X11_live {l : Launch} (v0 : Nat) (h : Hp) {r : Int32} {hz : Hp} (e : F_X11_live v0 h = some (r, hz)) : Ct l yX11_live M_X11_live (some .int) 4 [.ref v0] h 0 0 (some (.int r)) hz :=
  Ct_of rfl rfl (fun q => by cases q) (Nat.le_of_ble_eq_true rfl) (fun x _ hF => V_pick [0] rfl (r_X11_live_b0 v0 h e hF))
theorem dX11_stove_0 : decode cX11_stove 0 = .ok (.aload_n 0, 1) := by decide +kernel
theorem dX11_stove_1 : decode cX11_stove 1 = .ok (.getfield 19, 3) := by decide +kernel
theorem dX11_stove_4 : decode cX11_stove 4 = .ok (.iload_n 1, 1) := by decide +kernel
theorem dX11_stove_5 : decode cX11_stove 5 = .ok (.invokevirtual 144, 3) := by decide +kernel
theorem dX11_stove_8 : decode cX11_stove 8 = .ok (.ifCond .ne 13, 3) := by decide +kernel
theorem dX11_stove_11 : decode cX11_stove 11 = .ok (.new 113, 3) := by decide +kernel
theorem dX11_stove_14 : decode cX11_stove 14 = .ok (.dup, 1) := by decide +kernel
theorem dX11_stove_15 : decode cX11_stove 15 = .ok (.ldc 147, 2) := by decide +kernel
theorem dX11_stove_17 : decode cX11_stove 17 = .ok (.invokespecial 117, 3) := by decide +kernel
theorem dX11_stove_20 : decode cX11_stove 20 = .ok (.athrow, 1) := by decide +kernel
theorem dX11_stove_21 : decode cX11_stove 21 = .ok (.aload_n 0, 1) := by decide +kernel
theorem dX11_stove_22 : decode cX11_stove 22 = .ok (.getfield 19, 3) := by decide +kernel
theorem dX11_stove_25 : decode cX11_stove 25 = .ok (.getfield 273, 3) := by decide +kernel
theorem dX11_stove_28 : decode cX11_stove 28 = .ok (.iconst 5, 1) := by decide +kernel
theorem dX11_stove_29 : decode cX11_stove 29 = .ok (.if_icmp .lt 6, 3) := by decide +kernel
theorem dX11_stove_32 : decode cX11_stove 32 = .ok (.bipush (-3), 2) := by decide +kernel
theorem dX11_stove_34 : decode cX11_stove 34 = .ok (.ireturn, 1) := by decide +kernel
theorem dX11_stove_35 : decode cX11_stove 35 = .ok (.aload_n 0, 1) := by decide +kernel
theorem dX11_stove_36 : decode cX11_stove 36 = .ok (.getfield 61, 3) := by decide +kernel
theorem dX11_stove_39 : decode cX11_stove 39 = .ok (.iload_n 1, 1) := by decide +kernel
theorem dX11_stove_40 : decode cX11_stove 40 = .ok (.aload_n 0, 1) := by decide +kernel
theorem dX11_stove_41 : decode cX11_stove 41 = .ok (.getfield 19, 3) := by decide +kernel
theorem dX11_stove_44 : decode cX11_stove 44 = .ok (.aload_n 0, 1) := by decide +kernel
theorem dX11_stove_45 : decode cX11_stove 45 = .ok (.getfield 47, 3) := by decide +kernel
theorem dX11_stove_48 : decode cX11_stove 48 = .ok (.invokevirtual 276, 3) := by decide +kernel
theorem dX11_stove_51 : decode cX11_stove 51 = .ok (.ireturn, 1) := by decide +kernel
set_option maxRecDepth 100000 in
def F_X11_stove_b0 (v0 : Nat) (v1 : Int32) (h : Hp) : Option ((Int32 ⊕ Nat) × Hp × Nat × Nat) :=
  gd (decide (kd h v0 = 10)) <| ob (zR h v0 1) fun q2 => ob (F_X2_hasRoom q2 v1 h) fun r5 => gd (decide (kd h q2 = 2)) <| (if r5 = 0 then some (.inr 2, h, 1, 6) else ob (zR h v0 1) fun q7 => gd (decide (kd h q7 = 2)) <| (if (zI h q7 5) < (5 : Int32) then ob (zR h v0 7) fun q10 => ob (zR h v0 1) fun q12 => ob (zR h v0 5) fun q14 => ob4 (F_X4_stoveTo q10 v1 q12 q14 h) fun r17 h18 n19 n20 => ac n19 n20 <| gd (decide (kd h q10 = 4)) <| some (.inl r17, h18, 0, 0) else some (.inl (-3 : Int32), h, 0, 0)))
set_option maxHeartbeats 4000000 in
set_option maxRecDepth 100000 in
theorem r_X11_stove_b0 (v0 : Nat) (v1 : Int32) (h : Hp) {x : Cx} {r : (Int32 ⊕ Nat)} {hz : Hp} {c9 s9 : Nat} (e : F_X11_stove_b0 v0 v1 h = some (r, hz, c9, s9)) (hF : FinO M_X11_stove x (some .int) r hz) : V M_X11_stove x 8 0 [(0, .ref v0), (1, .int v1)] [] h c9 s9 := by
  unfold F_X11_stove_b0 at e
  refine V_aload_n (pc := 0) (i := 0) dX11_stove_0 rfl rfl ?_
  replace e := gd_some e
  obtain ⟨g1, e⟩ := e
  replace e := ob_some e
  obtain ⟨q2, g3, e⟩ := e
  refine V_getR (pc := 1) (ci := 10) (k := 1) (b := q2) dX11_stove_1 fl_X11_19 rfl (of_decide_eq_true g1) g3 ?_
  refine V_iload_n (pc := 4) (i := 1) dX11_stove_4 rfl rfl ?_
  replace e := ob_some e
  obtain ⟨r5, g4, e⟩ := e
  replace e := gd_some e
  obtain ⟨g6, e⟩ := e
  refine V_callV (pc := 5) (bc := c9) (bs := s9) (mc := 0) (ms := 0) (st := []) (As := [.int v1]) (a := q2) (h' := h) (r := some (.int r5)) dX11_stove_5 ml_X11_144 (ci := 2) rfl (of_decide_eq_true g6) rfl rfl (Nat.le_of_ble_eq_true rfl) (d' := 0) (by decide) (c_X2_hasRoom (l := x.2.1) q2 v1 h g4) ?_
  refine V_if_ne (pc := 8) (tgt := 21) dX11_stove_8 (by decide) (fun c25 => ?_) (fun c25 => ?_)
  · rw [if_neg c25] at e
    refine V_pick [0, 1] rfl ?_
    refine V_aload_n (pc := 21) (i := 0) dX11_stove_21 rfl rfl ?_
    replace e := ob_some e
    obtain ⟨q7, g8, e⟩ := e
    refine V_getR (pc := 22) (ci := 10) (k := 1) (b := q7) dX11_stove_22 fl_X11_19 rfl (of_decide_eq_true g1) g8 ?_
    replace e := gd_some e
    obtain ⟨g9, e⟩ := e
    refine V_getI (pc := 25) (ci := 2) (k := 5) dX11_stove_25 fl_X11_273 rfl (of_decide_eq_true g9) ?_
    refine V_iconst (pc := 28) (v := (5 : Int32)) dX11_stove_28 (by decide) ?_
    refine V_icmp_lt (pc := 29) (tgt := 35) dX11_stove_29 (by decide) (fun c24 => ?_) (fun c24 => ?_)
    · rw [if_pos c24] at e
      refine V_pick [0, 1] rfl ?_
      refine V_aload_n (pc := 35) (i := 0) dX11_stove_35 rfl rfl ?_
      replace e := ob_some e
      obtain ⟨q10, g11, e⟩ := e
      refine V_getR (pc := 36) (ci := 10) (k := 7) (b := q10) dX11_stove_36 fl_X11_61 rfl (of_decide_eq_true g1) g11 ?_
      refine V_iload_n (pc := 39) (i := 1) dX11_stove_39 rfl rfl ?_
      refine V_aload_n (pc := 40) (i := 0) dX11_stove_40 rfl rfl ?_
      replace e := ob_some e
      obtain ⟨q12, g13, e⟩ := e
      refine V_getR (pc := 41) (ci := 10) (k := 1) (b := q12) dX11_stove_41 fl_X11_19 rfl (of_decide_eq_true g1) g13 ?_
      refine V_aload_n (pc := 44) (i := 0) dX11_stove_44 rfl rfl ?_
      replace e := ob_some e
      obtain ⟨q14, g15, e⟩ := e
      refine V_getR (pc := 45) (ci := 10) (k := 5) (b := q14) dX11_stove_45 fl_X11_47 rfl (of_decide_eq_true g1) g15 ?_
      replace e := ob4_some e
      obtain ⟨r17, h18, n19, n20, g16, e⟩ := e
      replace e := ac_some e
      obtain ⟨n21, n22, e, hc9, hs9⟩ := e
      rw [hc9, hs9]
      clear hc9 hs9
      replace e := gd_some e
      obtain ⟨g23, e⟩ := e
      refine V_callV (pc := 48) (bc := n21) (bs := n22) (mc := n19) (ms := n20) (st := []) (As := [.int v1, .ref q12, .ref q14]) (a := q10) (h' := h18) (r := some (.int r17)) dX11_stove_48 ml_X11_276 (ci := 4) rfl (of_decide_eq_true g23) rfl rfl (Nat.le_of_ble_eq_true rfl) (d' := 3) (by decide) (c_X4_stoveTo (l := x.2.1) q10 v1 q12 q14 h g16) ?_
      cases e
      exact V_iret (pc := 51) dX11_stove_51 hF
    · rw [if_neg c24] at e
      refine V_pick [] rfl ?_
      refine V_bipush (pc := 32) (v := (-3 : Int32)) dX11_stove_32 (by decide) ?_
      cases e
      exact V_iret (pc := 34) dX11_stove_34 hF
  · rw [if_pos c25] at e
    refine V_pick [] rfl ?_
    cases e
    exact V_throw (pc := 11) (j := 29) hF th_X11_113_117 rfl (by decide) (Nat.le_of_ble_eq_true rfl) dX11_stove_11 dX11_stove_14 dX11_stove_15 dX11_stove_17 dX11_stove_20
def F_X11_stove (v0 : Nat) (v1 : Int32) (h : Hp) : Option ((Int32 ⊕ Nat) × Hp × Nat × Nat) := F_X11_stove_b0 v0 v1 h
theorem c_X11_stove {l : Launch} (v0 : Nat) (v1 : Int32) (h : Hp) {r : Int32} {hz : Hp} {c9 s9 : Nat} (e : F_X11_stove v0 v1 h = some (.inl r, hz, c9, s9)) : Ct l yX11_stove M_X11_stove (some .int) 8 [.ref v0, .int v1] h c9 s9 (some (.int r)) hz :=
  Ct_of rfl rfl (fun q => by cases q) (Nat.le_of_ble_eq_true rfl) (fun x _ hF => V_pick [0, 1] rfl (r_X11_stove_b0 v0 v1 h e hF))
theorem cX_X11_stove {l : Launch} (hst : l.stackTraces = false) (v0 : Nat) (v1 : Int32) (h : Hp) {k : Nat} {hz : Hp} {c9 s9 : Nat} (e : F_X11_stove v0 v1 h = some (.inr k, hz, c9, s9)) : CtX l yX11_stove M_X11_stove (some .int) 8 [.ref v0, .int v1] h c9 s9 (exN k) hz :=
  CtX_of hst rfl rfl (fun q => by cases q) (Nat.le_of_ble_eq_true rfl) (fun x _ hF => V_pick [0, 1] rfl (r_X11_stove_b0 v0 v1 h e hF))
theorem dX5_find_0 : decode cX5_find 0 = .ok (.aload_n 0, 1) := by decide +kernel
theorem dX5_find_1 : decode cX5_find 1 = .ok (.iconst (-1), 1) := by decide +kernel
theorem dX5_find_2 : decode cX5_find 2 = .ok (.putfield 15, 3) := by decide +kernel
theorem dX5_find_5 : decode cX5_find 5 = .ok (.aload_n 0, 1) := by decide +kernel
theorem dX5_find_6 : decode cX5_find 6 = .ok (.iconst (-1), 1) := by decide +kernel
theorem dX5_find_7 : decode cX5_find 7 = .ok (.putfield 19, 3) := by decide +kernel
theorem dX5_find_10 : decode cX5_find 10 = .ok (.aload_n 0, 1) := by decide +kernel
theorem dX5_find_11 : decode cX5_find 11 = .ok (.iconst 0, 1) := by decide +kernel
theorem dX5_find_12 : decode cX5_find 12 = .ok (.putfield 22, 3) := by decide +kernel
theorem dX5_find_15 : decode cX5_find 15 = .ok (.aload_n 0, 1) := by decide +kernel
theorem dX5_find_16 : decode cX5_find 16 = .ok (.getfield 11, 3) := by decide +kernel
theorem dX5_find_19 : decode cX5_find 19 = .ok (.iconst (-1), 1) := by decide +kernel
theorem dX5_find_20 : decode cX5_find 20 = .ok (.invokestatic 25, 3) := by decide +kernel
theorem dX5_find_23 : decode cX5_find 23 = .ok (.aload_n 1, 1) := by decide +kernel
theorem dX5_find_24 : decode cX5_find 24 = .ok (.invokevirtual 31, 3) := by decide +kernel
theorem dX5_find_27 : decode cX5_find 27 = .ok (.istore_n 3, 1) := by decide +kernel
theorem dX5_find_28 : decode cX5_find 28 = .ok (.aload_n 2, 1) := by decide +kernel
theorem dX5_find_29 : decode cX5_find 29 = .ok (.aload_n 1, 1) := by decide +kernel
theorem dX5_find_30 : decode cX5_find 30 = .ok (.aload_n 1, 1) := by decide +kernel
theorem dX5_find_31 : decode cX5_find 31 = .ok (.getfield 37, 3) := by decide +kernel
theorem dX5_find_34 : decode cX5_find 34 = .ok (.invokevirtual 40, 3) := by decide +kernel
theorem dX5_find_37 : decode cX5_find 37 = .ok (.iconst 0, 1) := by decide +kernel
theorem dX5_find_38 : decode cX5_find 38 = .ok (.istore 4, 2) := by decide +kernel
theorem dX5_find_40 : decode cX5_find 40 = .ok (.iload 4, 2) := by decide +kernel
theorem dX5_find_42 : decode cX5_find 42 = .ok (.ldc 46, 2) := by decide +kernel
theorem dX5_find_44 : decode cX5_find 44 = .ok (.if_icmp .ge 48, 3) := by decide +kernel
theorem dX5_find_47 : decode cX5_find 47 = .ok (.aload_n 2, 1) := by decide +kernel
theorem dX5_find_48 : decode cX5_find 48 = .ok (.aload_n 1, 1) := by decide +kernel
theorem dX5_find_49 : decode cX5_find 49 = .ok (.invokevirtual 47, 3) := by decide +kernel
theorem dX5_find_52 : decode cX5_find 52 = .ok (.ifCond .eq 40, 3) := by decide +kernel
theorem dX5_find_55 : decode cX5_find 55 = .ok (.aload_n 2, 1) := by decide +kernel
theorem dX5_find_56 : decode cX5_find 56 = .ok (.invokevirtual 51, 3) := by decide +kernel
theorem dX5_find_59 : decode cX5_find 59 = .ok (.ifCond .eq 27, 3) := by decide +kernel
theorem dX5_find_62 : decode cX5_find 62 = .ok (.aload_n 0, 1) := by decide +kernel
theorem dX5_find_63 : decode cX5_find 63 = .ok (.dup, 1) := by decide +kernel
theorem dX5_find_64 : decode cX5_find 64 = .ok (.getfield 22, 3) := by decide +kernel
theorem dX5_find_67 : decode cX5_find 67 = .ok (.iconst 1, 1) := by decide +kernel
theorem dX5_find_68 : decode cX5_find 68 = .ok (.iadd, 1) := by decide +kernel
theorem dX5_find_69 : decode cX5_find 69 = .ok (.putfield 22, 3) := by decide +kernel
theorem dX5_find_72 : decode cX5_find 72 = .ok (.aload_n 0, 1) := by decide +kernel
theorem dX5_find_73 : decode cX5_find 73 = .ok (.getfield 19, 3) := by decide +kernel
theorem dX5_find_76 : decode cX5_find 76 = .ok (.iload_n 3, 1) := by decide +kernel
theorem dX5_find_77 : decode cX5_find 77 = .ok (.if_icmp .ge 9, 3) := by decide +kernel
theorem dX5_find_80 : decode cX5_find 80 = .ok (.aload_n 0, 1) := by decide +kernel
theorem dX5_find_81 : decode cX5_find 81 = .ok (.aload_n 1, 1) := by decide +kernel
theorem dX5_find_82 : decode cX5_find 82 = .ok (.aload_n 2, 1) := by decide +kernel
theorem dX5_find_83 : decode cX5_find 83 = .ok (.invokevirtual 55, 3) := by decide +kernel
theorem dX5_find_86 : decode cX5_find 86 = .ok (.iinc 4 1, 3) := by decide +kernel
theorem dX5_find_89 : decode cX5_find 89 = .ok (.goto (-49), 3) := by decide +kernel
theorem dX5_find_92 : decode cX5_find 92 = .ok (.return_, 1) := by decide +kernel
set_option maxRecDepth 100000 in
def F_X5_find_b86 (v0 : Nat) (v1 : Nat) (v2 : Nat) (v3 : Int32) (v4 : Int32) (h : Hp) : Option ((Int32 × Hp) ⊕ Hp) :=
  some (.inl (v4 + (1 : Int32), h))
set_option maxHeartbeats 4000000 in
set_option maxRecDepth 100000 in
theorem r_X5_find_b86 (v0 : Nat) (v1 : Nat) (v2 : Nat) (v3 : Int32) (v4 : Int32) (h : Hp) {x : Cx} {o : ((Int32 × Hp) ⊕ Hp)} (e : F_X5_find_b86 v0 v1 v2 v3 v4 h = some o) (kI : ∀ z, o = .inl z → V M_X5_find x 6 40 [(0, .ref v0), (1, .ref v1), (2, .ref v2), (3, .int v3), (4, .int z.1)] [] z.2 0 0) (kE92 : ∀ z : Hp, o = .inr z → V M_X5_find x 6 92 [] [] z 0 0) : V M_X5_find x 6 86 [(0, .ref v0), (1, .ref v1), (2, .ref v2), (3, .int v3), (4, .int v4)] [] h 0 0 := by
  unfold F_X5_find_b86 at e
  refine V_iinc (pc := 86) (i := 4) (u := v4 + (1 : Int32)) (lv' := [(4, .int (v4 + (1 : Int32))), (0, .ref v0), (1, .ref v1), (2, .ref v2), (3, .int v3)]) dX5_find_86 rfl rfl (by decide) rfl ?_
  refine V_goto (pc := 89) (tgt := 40) dX5_find_89 (by decide) ?_
  cases e
  exact V_pick [1, 2, 3, 4, 0] rfl (kI (v4 + (1 : Int32), h) rfl)
set_option maxRecDepth 100000 in
def F_X5_find_l40 (v0 : Nat) (v1 : Nat) (v2 : Nat) (v3 : Int32) (v4 : Int32) (h : Hp) : Option ((Int32 × Hp) ⊕ Hp) :=
  (if (32768 : Int32) ≤ v4 then some (.inr h) else ob2 (F_X9_advance v2 v1 h) fun r15 h16 => gd (decide (kd h v2 = 8)) <| (if r15 = 0 then some (.inr h16) else ob (F_X9_isLevelNow v2 h16) fun r19 => gd (decide (kd h16 v2 = 8)) <| (if r19 = 0 then F_X5_find_b86 v0 v1 v2 v3 v4 h16 else gd (decide (kd h16 v0 = 5)) <| (if v3 ≤ (zI (setI h16 v0 3 ((zI h16 v0 3) + (1 : Int32))) v0 2) then F_X5_find_b86 v0 v1 v2 v3 v4 (setI h16 v0 3 ((zI h16 v0 3) + (1 : Int32))) else ob2 (F_X5_compare v0 v1 v2 (setI h16 v0 3 ((zI h16 v0 3) + (1 : Int32)))) fun _ h24 => F_X5_find_b86 v0 v1 v2 v3 v4 h24))))
set_option maxHeartbeats 4000000 in
set_option maxRecDepth 100000 in
theorem r_X5_find_l40 (v0 : Nat) (v1 : Nat) (v2 : Nat) (v3 : Int32) (v4 : Int32) (h : Hp) {x : Cx} {o : ((Int32 × Hp) ⊕ Hp)} (e : F_X5_find_l40 v0 v1 v2 v3 v4 h = some o) (kI : ∀ z, o = .inl z → V M_X5_find x 6 40 [(0, .ref v0), (1, .ref v1), (2, .ref v2), (3, .int v3), (4, .int z.1)] [] z.2 0 0) (kE92 : ∀ z : Hp, o = .inr z → V M_X5_find x 6 92 [] [] z 0 0) : V M_X5_find x 6 40 [(0, .ref v0), (1, .ref v1), (2, .ref v2), (3, .int v3), (4, .int v4)] [] h 0 0 := by
  unfold F_X5_find_l40 at e
  refine V_iload (pc := 40) (i := 4) dX5_find_40 rfl ?_
  refine V_ldc (pc := 42) (v := (32768 : Int32)) dX5_find_42 (wk_X5_46) ?_
  refine V_icmp_ge (pc := 44) (tgt := 92) dX5_find_44 (by decide) (fun c28 => ?_) (fun c28 => ?_)
  · rw [if_pos c28] at e
    cases e
    exact V_pick [] rfl (kE92 h rfl)
  · rw [if_neg c28] at e
    refine V_pick [0, 1, 2, 3, 4] rfl ?_
    refine V_aload_n (pc := 47) (i := 2) dX5_find_47 rfl rfl ?_
    refine V_aload_n (pc := 48) (i := 1) dX5_find_48 rfl rfl ?_
    obtain ⟨r15, h16, g14, e⟩ := ob2_some e
    obtain ⟨g17, e⟩ := gd_some e
    refine V_callV (pc := 49) (bc := 0) (bs := 0) (mc := 0) (ms := 0) (st := []) (As := [.ref v1]) (a := v2) (h' := h16) (r := some (.int r15)) dX5_find_49 ml_X5_47 (ci := 8) rfl (of_decide_eq_true g17) rfl rfl (Nat.le_of_ble_eq_true rfl) (d' := 1) (by decide) (c_X9_advance (l := x.2.1) v2 v1 h g14) ?_
    refine V_if_eq (pc := 52) (tgt := 92) dX5_find_52 (by decide) (fun c27 => ?_) (fun c27 => ?_)
    · rw [if_pos c27] at e
      cases e
      exact V_pick [] rfl (kE92 h16 rfl)
    · rw [if_neg c27] at e
      refine V_pick [0, 1, 2, 3, 4] rfl ?_
      refine V_aload_n (pc := 55) (i := 2) dX5_find_55 rfl rfl ?_
      obtain ⟨r19, g18, e⟩ := ob_some e
      obtain ⟨g20, e⟩ := gd_some e
      refine V_callV (pc := 56) (bc := 0) (bs := 0) (mc := 0) (ms := 0) (st := []) (As := []) (a := v2) (h' := h16) (r := some (.int r19)) dX5_find_56 ml_X5_51 (ci := 8) rfl (of_decide_eq_true g20) rfl rfl (Nat.le_of_ble_eq_true rfl) (d' := 0) (by decide) (c_X9_isLevelNow (l := x.2.1) v2 h16 g18) ?_
      refine V_if_eq (pc := 59) (tgt := 86) dX5_find_59 (by decide) (fun c26 => ?_) (fun c26 => ?_)
      · rw [if_pos c26] at e
        exact V_pick [0, 1, 2, 3, 4] rfl (r_X5_find_b86 v0 v1 v2 v3 v4 h16 e kI kE92)
      · rw [if_neg c26] at e
        refine V_pick [0, 1, 2, 3, 4] rfl ?_
        refine V_aload_n (pc := 62) (i := 0) dX5_find_62 rfl rfl ?_
        refine V_dup (pc := 63) dX5_find_63 rfl ?_
        obtain ⟨g21, e⟩ := gd_some e
        refine V_getI (pc := 64) (ci := 5) (k := 3) dX5_find_64 fl_X5_22 rfl (of_decide_eq_true g21) ?_
        refine V_iconst (pc := 67) (v := (1 : Int32)) dX5_find_67 (by decide) ?_
        refine V_iadd (pc := 68) dX5_find_68 ?_
        refine V_putI (pc := 69) (ci := 5) (k := 3) dX5_find_69 fp_X5_22 rfl (of_decide_eq_true g21) ?_
        refine V_aload_n (pc := 72) (i := 0) dX5_find_72 rfl rfl ?_
        refine V_getI (pc := 73) (ci := 5) (k := 2) dX5_find_73 fl_X5_19 rfl (kd_sI (of_decide_eq_true g21)) ?_
        refine V_iload_n (pc := 76) (i := 3) dX5_find_76 rfl rfl ?_
        refine V_icmp_ge (pc := 77) (tgt := 86) dX5_find_77 (by decide) (fun c25 => ?_) (fun c25 => ?_)
        · rw [if_pos c25] at e
          exact V_pick [0, 1, 2, 3, 4] rfl (r_X5_find_b86 v0 v1 v2 v3 v4 (setI h16 v0 3 ((zI h16 v0 3) + (1 : Int32))) e kI kE92)
        · rw [if_neg c25] at e
          refine V_pick [0, 1, 2, 3, 4] rfl ?_
          refine V_aload_n (pc := 80) (i := 0) dX5_find_80 rfl rfl ?_
          refine V_aload_n (pc := 81) (i := 1) dX5_find_81 rfl rfl ?_
          refine V_aload_n (pc := 82) (i := 2) dX5_find_82 rfl rfl ?_
          obtain ⟨r23, h24, g22, e⟩ := ob2_some e
          refine V_callV (pc := 83) (bc := 0) (bs := 0) (mc := 0) (ms := 0) (st := []) (As := [.ref v1, .ref v2]) (a := v0) (h' := h24) (r := none) dX5_find_83 ml_X5_55 (ci := 5) rfl (kd_sI (of_decide_eq_true g21)) rfl rfl (Nat.le_of_ble_eq_true rfl) (d' := 5) (by decide) (c_X5_compare (l := x.2.1) v0 v1 v2 (setI h16 v0 3 ((zI h16 v0 3) + (1 : Int32))) g22) ?_
          exact V_pick [0, 1, 2, 3, 4] rfl (r_X5_find_b86 v0 v1 v2 v3 v4 h24 e kI kE92)
set_option maxRecDepth 100000 in
def F_X5_find_b92  (h : Hp) : Option (Unit × Hp) :=
  some ((), h)
set_option maxHeartbeats 4000000 in
set_option maxRecDepth 100000 in
theorem r_X5_find_b92  (h : Hp) {x : Cx} {r : Unit} {hz : Hp} (e : F_X5_find_b92  h = some (r, hz)) (hF : Fin9 M_X5_find x none none hz) : V M_X5_find x 6 92 [] [] h 0 0 := by
  unfold F_X5_find_b92 at e
  cases e
  exact V_vret (pc := 92) dX5_find_92 hF
set_option maxRecDepth 100000 in
def F_X5_find_b0 (v0 : Nat) (v1 : Nat) (v2 : Nat) (h : Hp) : Option (Unit × Hp) :=
  gd (decide (kd h v0 = 5)) <| ob (zR (setI (setI (setI h v0 1 (-1 : Int32)) v0 2 (-1 : Int32)) v0 3 (0 : Int32)) v0 0) fun q2 => ob2 (F_J7_fill_53178 q2 (-1 : Int32) (setI (setI (setI h v0 1 (-1 : Int32)) v0 2 (-1 : Int32)) v0 3 (0 : Int32))) fun _ h6 => ob (F_X2_wishesOfAll v1 h6) fun r8 => gd (decide (kd h6 v1 = 2)) <| ob2 (F_X9_start v2 v1 (zI h6 v1 11) h6) fun _ h12 => gd (decide (kd h6 v2 = 8)) <| ob (iter (fun z : Int32 × Hp => F_X5_find_l40 v0 v1 v2 r8 z.1 z.2) FU ((0 : Int32), h12)) (fun h29 => F_X5_find_b92 h29)
set_option maxHeartbeats 4000000 in
set_option maxRecDepth 100000 in
theorem r_X5_find_b0 (v0 : Nat) (v1 : Nat) (v2 : Nat) (h : Hp) {x : Cx} {r : Unit} {hz : Hp} (e : F_X5_find_b0 v0 v1 v2 h = some (r, hz)) (hF : Fin9 M_X5_find x none none hz) : V M_X5_find x 6 0 [(0, .ref v0), (1, .ref v1), (2, .ref v2)] [] h 0 0 := by
  unfold F_X5_find_b0 at e
  refine V_aload_n (pc := 0) (i := 0) dX5_find_0 rfl rfl ?_
  refine V_iconst (pc := 1) (v := (-1 : Int32)) dX5_find_1 (by decide) ?_
  obtain ⟨g1, e⟩ := gd_some e
  refine V_putI (pc := 2) (ci := 5) (k := 1) dX5_find_2 fp_X5_15 rfl (of_decide_eq_true g1) ?_
  refine V_aload_n (pc := 5) (i := 0) dX5_find_5 rfl rfl ?_
  refine V_iconst (pc := 6) (v := (-1 : Int32)) dX5_find_6 (by decide) ?_
  refine V_putI (pc := 7) (ci := 5) (k := 2) dX5_find_7 fp_X5_19 rfl (kd_sI (of_decide_eq_true g1)) ?_
  refine V_aload_n (pc := 10) (i := 0) dX5_find_10 rfl rfl ?_
  refine V_iconst (pc := 11) (v := (0 : Int32)) dX5_find_11 (by decide) ?_
  refine V_putI (pc := 12) (ci := 5) (k := 3) dX5_find_12 fp_X5_22 rfl (kd_sI (kd_sI (of_decide_eq_true g1))) ?_
  refine V_aload_n (pc := 15) (i := 0) dX5_find_15 rfl rfl ?_
  obtain ⟨q2, g3, e⟩ := ob_some e
  refine V_getR (pc := 16) (ci := 5) (k := 0) (b := q2) dX5_find_16 fl_X5_11 rfl (kd_sI (kd_sI (kd_sI (of_decide_eq_true g1)))) g3 ?_
  refine V_iconst (pc := 19) (v := (-1 : Int32)) dX5_find_19 (by decide) ?_
  obtain ⟨r5, h6, g4, e⟩ := ob2_some e
  refine V_callT (pc := 20) (bc := 0) (bs := 0) (mc := 0) (ms := 0) (st := []) (As := [.ref q2, .int (-1 : Int32)]) (h' := h6) (r := none) dX5_find_20 ml_X5_25 rfl rfl (Nat.le_of_ble_eq_true rfl) (d' := 0) (by decide) (c_J7_fill_53178 (l := x.2.1) q2 (-1 : Int32) (setI (setI (setI h v0 1 (-1 : Int32)) v0 2 (-1 : Int32)) v0 3 (0 : Int32)) g4) ?_
  refine V_aload_n (pc := 23) (i := 1) dX5_find_23 rfl rfl ?_
  obtain ⟨r8, g7, e⟩ := ob_some e
  obtain ⟨g9, e⟩ := gd_some e
  refine V_callV (pc := 24) (bc := 0) (bs := 0) (mc := 0) (ms := 0) (st := []) (As := []) (a := v1) (h' := h6) (r := some (.int r8)) dX5_find_24 ml_X5_31 (ci := 2) rfl (of_decide_eq_true g9) rfl rfl (Nat.le_of_ble_eq_true rfl) (d' := 0) (by decide) (c_X2_wishesOfAll (l := x.2.1) v1 h6 g7) ?_
  refine V_istore_n (pc := 27) (i := 3) (lv' := [(3, .int r8), (0, .ref v0), (1, .ref v1), (2, .ref v2)]) dX5_find_27 rfl (by decide) rfl ?_
  refine V_aload_n (pc := 28) (i := 2) dX5_find_28 rfl rfl ?_
  refine V_aload_n (pc := 29) (i := 1) dX5_find_29 rfl rfl ?_
  refine V_aload_n (pc := 30) (i := 1) dX5_find_30 rfl rfl ?_
  refine V_getI (pc := 31) (ci := 2) (k := 11) dX5_find_31 fl_X5_37 rfl (of_decide_eq_true g9) ?_
  obtain ⟨r11, h12, g10, e⟩ := ob2_some e
  obtain ⟨g13, e⟩ := gd_some e
  refine V_callV (pc := 34) (bc := 0) (bs := 0) (mc := 0) (ms := 0) (st := []) (As := [.ref v1, .int (zI h6 v1 11)]) (a := v2) (h' := h12) (r := none) dX5_find_34 ml_X5_40 (ci := 8) rfl (of_decide_eq_true g13) rfl rfl (Nat.le_of_ble_eq_true rfl) (d' := 1) (by decide) (c_X9_start (l := x.2.1) v2 v1 (zI h6 v1 11) h6 g10) ?_
  refine V_iconst (pc := 37) (v := (0 : Int32)) dX5_find_37 (by decide) ?_
  refine V_istore (pc := 38) (i := 4) (lv' := [(4, .int (0 : Int32)), (3, .int r8), (0, .ref v0), (1, .ref v1), (2, .ref v2)]) dX5_find_38 (by decide) rfl ?_
  refine V_pick [2, 3, 4, 1, 0] rfl ?_
  obtain ⟨y30, g31, e⟩ := ob_some e
  refine iter_V (P := fun z : Int32 × Hp => V M_X5_find x 6 40 [(0, .ref v0), (1, .ref v1), (2, .ref v2), (3, .int r8), (4, .int z.1)] [] z.2 0 0) (E := fun z : Hp => V M_X5_find x 6 92 [] [] z 0 0) (fun z o e9 k1 k2 => r_X5_find_l40 v0 v1 v2 r8 z.1 z.2 e9 (fun z hz9 => k1 z hz9) (fun z hz9 => k2 _ hz9)) _ _ _ g31 ?_
  clear g31
  obtain ⟨h29, rfl⟩ : ∃ q, q = y30 := ⟨_, rfl⟩
  replace e : (F_X5_find_b92 h29) = some (r, hz) := e
  show V M_X5_find x 6 92 [] [] h29 0 0
  exact V_pick [] rfl (r_X5_find_b92 h29 e hF)
def F_X5_find (v0 : Nat) (v1 : Nat) (v2 : Nat) (h : Hp) : Option (Unit × Hp) := F_X5_find_b0 v0 v1 v2 h
theorem c_X5_find {l : Launch} (v0 : Nat) (v1 : Nat) (v2 : Nat) (h : Hp) {r : Unit} {hz : Hp} (e : F_X5_find v0 v1 v2 h = some (r, hz)) : Ct l yX5_find M_X5_find none 6 [.ref v0, .ref v1, .ref v2] h 0 0 none hz :=
  Ct_of rfl rfl (fun q => by cases q) (Nat.le_of_ble_eq_true rfl) (fun x _ hF => V_pick [0, 1, 2] rfl (r_X5_find_b0 v0 v1 v2 h e hF))
theorem dX10_readLine_0 : decode cX10_readLine 0 = .ok (.aload_n 1, 1) := by decide +kernel
theorem dX10_readLine_1 : decode cX10_readLine 1 = .ok (.ldc 31, 2) := by decide +kernel
theorem dX10_readLine_3 : decode cX10_readLine 3 = .ok (.invokevirtual 33, 3) := by decide +kernel
theorem dX10_readLine_6 : decode cX10_readLine 6 = .ok (.ifCond .eq 25, 3) := by decide +kernel
theorem dX10_readLine_9 : decode cX10_readLine 9 = .ok (.aload_n 0, 1) := by decide +kernel
theorem dX10_readLine_10 : decode cX10_readLine 10 = .ok (.aload_n 1, 1) := by decide +kernel
theorem dX10_readLine_11 : decode cX10_readLine 11 = .ok (.iconst 0, 1) := by decide +kernel
theorem dX10_readLine_12 : decode cX10_readLine 12 = .ok (.invokevirtual 39, 3) := by decide +kernel
theorem dX10_readLine_15 : decode cX10_readLine 15 = .ok (.ifCond .eq 16, 3) := by decide +kernel
theorem dX10_readLine_18 : decode cX10_readLine 18 = .ok (.aload_n 0, 1) := by decide +kernel
theorem dX10_readLine_19 : decode cX10_readLine 19 = .ok (.bipush (-7), 2) := by decide +kernel
theorem dX10_readLine_21 : decode cX10_readLine 21 = .ok (.invokevirtual 43, 3) := by decide +kernel
theorem dX10_readLine_24 : decode cX10_readLine 24 = .ok (.ifCond .eq 7, 3) := by decide +kernel
theorem dX10_readLine_27 : decode cX10_readLine 27 = .ok (.iconst 1, 1) := by decide +kernel
theorem dX10_readLine_28 : decode cX10_readLine 28 = .ok (.goto 4, 3) := by decide +kernel
theorem dX10_readLine_31 : decode cX10_readLine 31 = .ok (.iconst 0, 1) := by decide +kernel
theorem dX10_readLine_32 : decode cX10_readLine 32 = .ok (.ireturn, 1) := by decide +kernel
set_option maxRecDepth 100000 in
def F_X10_readLine_b32 (t0 : Int32) (h : Hp) : Option (Int32 × Hp) :=
  gd (decide (t0 = 0 ∨ t0 = 1)) <| some (t0, h)
set_option maxHeartbeats 4000000 in
set_option maxRecDepth 100000 in
theorem r_X10_readLine_b32 (t0 : Int32) (h : Hp) {x : Cx} {r : Int32} {hz : Hp} (e : F_X10_readLine_b32 t0 h = some (r, hz)) (hF : Fin9 M_X10_readLine x (some .boolean) (some (.int r)) hz) : V M_X10_readLine x 61 32 [] [.int t0] h 0 0 := by
  unfold F_X10_readLine_b32 at e
  obtain ⟨g5, e⟩ := gd_some e
  cases e
  exact V_zret (pc := 32) dX10_readLine_32 (z01 (of_decide_eq_true g5)) hF
set_option maxRecDepth 100000 in
def F_X10_readLine_b31  (h : Hp) : Option (Int32 × Hp) :=
  F_X10_readLine_b32 (0 : Int32) h
set_option maxHeartbeats 4000000 in
set_option maxRecDepth 100000 in
theorem r_X10_readLine_b31  (h : Hp) {x : Cx} {r : Int32} {hz : Hp} (e : F_X10_readLine_b31  h = some (r, hz)) (hF : Fin9 M_X10_readLine x (some .boolean) (some (.int r)) hz) : V M_X10_readLine x 61 31 [] [] h 0 0 := by
  unfold F_X10_readLine_b31 at e
  refine V_iconst (pc := 31) (v := (0 : Int32)) dX10_readLine_31 (by decide) ?_
  exact V_pick [] rfl (r_X10_readLine_b32 (0 : Int32) h e hF)
set_option maxRecDepth 100000 in
def F_X10_readLine_b0 (v0 : Nat) (v1 : Nat) (h : Hp) : Option (Int32 × Hp) :=
  ob2 (F_X6_takeWord v1 (13 : UInt32) h) fun r2 h3 => gd (decide (kd h v1 = 6)) <| (if r2 = 0 then F_X10_readLine_b31 h3 else ob2 (F_X10_readAny v0 v1 (0 : Int32) h3) fun r7 h8 => gd (decide (kd h3 v0 = 9)) <| (if r7 = 0 then F_X10_readLine_b31 h8 else ob2 (F_X10_put v0 (-7 : Int32) h8) fun r11 h12 => gd (decide (kd h8 v0 = 9)) <| (if r11 = 0 then F_X10_readLine_b31 h12 else F_X10_readLine_b32 (1 : Int32) h12)))
set_option maxHeartbeats 4000000 in
set_option maxRecDepth 100000 in
theorem r_X10_readLine_b0 (v0 : Nat) (v1 : Nat) (h : Hp) {x : Cx} {r : Int32} {hz : Hp} (e : F_X10_readLine_b0 v0 v1 h = some (r, hz)) (hF : Fin9 M_X10_readLine x (some .boolean) (some (.int r)) hz) : V M_X10_readLine x 61 0 [(0, .ref v0), (1, .ref v1)] [] h 0 0 := by
  unfold F_X10_readLine_b0 at e
  refine V_aload_n (pc := 0) (i := 1) dX10_readLine_0 rfl rfl ?_
  refine V_ldcS (pc := 1) (j := 13) (u := (13 : UInt32)) dX10_readLine_1 rfl (by decide) ?_
  obtain ⟨r2, h3, g1, e⟩ := ob2_some e
  obtain ⟨g4, e⟩ := gd_some e
  refine V_callV (pc := 3) (bc := 0) (bs := 0) (mc := 0) (ms := 0) (st := []) (As := [.float (13 : UInt32)]) (a := v1) (h' := h3) (r := some (.int r2)) dX10_readLine_3 ml_X10_33 (ci := 6) rfl (of_decide_eq_true g4) rfl rfl (Nat.le_of_ble_eq_true rfl) (d' := 5) (by decide) (c_X6_takeWord (l := x.2.1) v1 (13 : UInt32) h g1) ?_
  refine V_if_eq (pc := 6) (tgt := 31) dX10_readLine_6 (by decide) (fun c16 => ?_) (fun c16 => ?_)
  · rw [if_pos c16] at e
    exact V_pick [] rfl (r_X10_readLine_b31 h3 e hF)
  · rw [if_neg c16] at e
    refine V_pick [0, 1] rfl ?_
    refine V_aload_n (pc := 9) (i := 0) dX10_readLine_9 rfl rfl ?_
    refine V_aload_n (pc := 10) (i := 1) dX10_readLine_10 rfl rfl ?_
    refine V_iconst (pc := 11) (v := (0 : Int32)) dX10_readLine_11 (by decide) ?_
    obtain ⟨r7, h8, g6, e⟩ := ob2_some e
    obtain ⟨g9, e⟩ := gd_some e
    refine V_callV (pc := 12) (bc := 0) (bs := 0) (mc := 0) (ms := 0) (st := []) (As := [.ref v1, .int (0 : Int32)]) (a := v0) (h' := h8) (r := some (.int r7)) dX10_readLine_12 ml_X10_39 (ci := 9) rfl (of_decide_eq_true g9) rfl rfl (Nat.le_of_ble_eq_true rfl) (d' := 60) (by decide) (c_X10_readAny (l := x.2.1) v0 v1 (0 : Int32) h3 g6) ?_
    refine V_if_eq (pc := 15) (tgt := 31) dX10_readLine_15 (by decide) (fun c15 => ?_) (fun c15 => ?_)
    · rw [if_pos c15] at e
      exact V_pick [] rfl (r_X10_readLine_b31 h8 e hF)
    · rw [if_neg c15] at e
      refine V_pick [0] rfl ?_
      refine V_aload_n (pc := 18) (i := 0) dX10_readLine_18 rfl rfl ?_
      refine V_bipush (pc := 19) (v := (-7 : Int32)) dX10_readLine_19 (by decide) ?_
      obtain ⟨r11, h12, g10, e⟩ := ob2_some e
      obtain ⟨g13, e⟩ := gd_some e
      refine V_callV (pc := 21) (bc := 0) (bs := 0) (mc := 0) (ms := 0) (st := []) (As := [.int (-7 : Int32)]) (a := v0) (h' := h12) (r := some (.int r11)) dX10_readLine_21 ml_X10_43 (ci := 9) rfl (of_decide_eq_true g13) rfl rfl (Nat.le_of_ble_eq_true rfl) (d' := 0) (by decide) (c_X10_put (l := x.2.1) v0 (-7 : Int32) h8 g10) ?_
      refine V_if_eq (pc := 24) (tgt := 31) dX10_readLine_24 (by decide) (fun c14 => ?_) (fun c14 => ?_)
      · rw [if_pos c14] at e
        exact V_pick [] rfl (r_X10_readLine_b31 h12 e hF)
      · rw [if_neg c14] at e
        refine V_pick [] rfl ?_
        refine V_iconst (pc := 27) (v := (1 : Int32)) dX10_readLine_27 (by decide) ?_
        refine V_goto (pc := 28) (tgt := 32) dX10_readLine_28 (by decide) ?_
        exact V_pick [] rfl (r_X10_readLine_b32 (1 : Int32) h12 e hF)
def F_X10_readLine (v0 : Nat) (v1 : Nat) (v2 : Nat) (h : Hp) : Option (Int32 × Hp) := F_X10_readLine_b0 v0 v1 h
theorem c_X10_readLine {l : Launch} (v0 : Nat) (v1 : Nat) (v2 : Nat) (h : Hp) {r : Int32} {hz : Hp} (e : F_X10_readLine v0 v1 v2 h = some (r, hz)) : Ct l yX10_readLine M_X10_readLine (some .boolean) 61 [.ref v0, .ref v1, .ref v2] h 0 0 (some (.int r)) hz :=
  Ct_of rfl rfl (fun q => by cases q) (Nat.le_of_ble_eq_true rfl) (fun x _ hF => V_pick [0, 1] rfl (r_X10_readLine_b0 v0 v1 h e hF))
