theorem dX2_isLevelAt_0 : decode cX2_isLevelAt 0 = .ok (.iload_n 1, 1) := by decide +kernel
theorem dX2_isLevelAt_1 : decode cX2_isLevelAt 1 = .ok (.aload_n 3, 1) := by decide +kernel
theorem dX2_isLevelAt_2 : decode cX2_isLevelAt 2 = .ok (.aload_n 0, 1) := by decide +kernel
theorem dX2_isLevelAt_3 : decode cX2_isLevelAt 3 = .ok (.getfield 15, 3) := by decide +kernel
theorem dX2_isLevelAt_6 : decode cX2_isLevelAt 6 = .ok (.invokevirtual 125, 3) := by decide +kernel
theorem dX2_isLevelAt_9 : decode cX2_isLevelAt 9 = .ok (.iadd, 1) := by decide +kernel
theorem dX2_isLevelAt_10 : decode cX2_isLevelAt 10 = .ok (.aload_n 0, 1) := by decide +kernel
theorem dX2_isLevelAt_11 : decode cX2_isLevelAt 11 = .ok (.getfield 56, 3) := by decide +kernel
theorem dX2_isLevelAt_14 : decode cX2_isLevelAt 14 = .ok (.ineg, 1) := by decide +kernel
theorem dX2_isLevelAt_15 : decode cX2_isLevelAt 15 = .ok (.if_icmp .lt 59, 3) := by decide +kernel
theorem dX2_isLevelAt_18 : decode cX2_isLevelAt 18 = .ok (.iload_n 1, 1) := by decide +kernel
theorem dX2_isLevelAt_19 : decode cX2_isLevelAt 19 = .ok (.aload_n 3, 1) := by decide +kernel
theorem dX2_isLevelAt_20 : decode cX2_isLevelAt 20 = .ok (.aload_n 0, 1) := by decide +kernel
theorem dX2_isLevelAt_21 : decode cX2_isLevelAt 21 = .ok (.getfield 15, 3) := by decide +kernel
theorem dX2_isLevelAt_24 : decode cX2_isLevelAt 24 = .ok (.invokevirtual 129, 3) := by decide +kernel
theorem dX2_isLevelAt_27 : decode cX2_isLevelAt 27 = .ok (.iadd, 1) := by decide +kernel
theorem dX2_isLevelAt_28 : decode cX2_isLevelAt 28 = .ok (.aload_n 0, 1) := by decide +kernel
theorem dX2_isLevelAt_29 : decode cX2_isLevelAt 29 = .ok (.getfield 56, 3) := by decide +kernel
theorem dX2_isLevelAt_32 : decode cX2_isLevelAt 32 = .ok (.if_icmp .gt 42, 3) := by decide +kernel
theorem dX2_isLevelAt_35 : decode cX2_isLevelAt 35 = .ok (.iload_n 2, 1) := by decide +kernel
theorem dX2_isLevelAt_36 : decode cX2_isLevelAt 36 = .ok (.aload_n 3, 1) := by decide +kernel
theorem dX2_isLevelAt_37 : decode cX2_isLevelAt 37 = .ok (.aload_n 0, 1) := by decide +kernel
theorem dX2_isLevelAt_38 : decode cX2_isLevelAt 38 = .ok (.getfield 19, 3) := by decide +kernel
theorem dX2_isLevelAt_41 : decode cX2_isLevelAt 41 = .ok (.invokevirtual 125, 3) := by decide +kernel
theorem dX2_isLevelAt_44 : decode cX2_isLevelAt 44 = .ok (.iadd, 1) := by decide +kernel
theorem dX2_isLevelAt_45 : decode cX2_isLevelAt 45 = .ok (.aload_n 0, 1) := by decide +kernel
theorem dX2_isLevelAt_46 : decode cX2_isLevelAt 46 = .ok (.getfield 56, 3) := by decide +kernel
theorem dX2_isLevelAt_49 : decode cX2_isLevelAt 49 = .ok (.ineg, 1) := by decide +kernel
theorem dX2_isLevelAt_50 : decode cX2_isLevelAt 50 = .ok (.if_icmp .lt 24, 3) := by decide +kernel
theorem dX2_isLevelAt_53 : decode cX2_isLevelAt 53 = .ok (.iload_n 2, 1) := by decide +kernel
theorem dX2_isLevelAt_54 : decode cX2_isLevelAt 54 = .ok (.aload_n 3, 1) := by decide +kernel
theorem dX2_isLevelAt_55 : decode cX2_isLevelAt 55 = .ok (.aload_n 0, 1) := by decide +kernel
theorem dX2_isLevelAt_56 : decode cX2_isLevelAt 56 = .ok (.getfield 19, 3) := by decide +kernel
theorem dX2_isLevelAt_59 : decode cX2_isLevelAt 59 = .ok (.invokevirtual 129, 3) := by decide +kernel
theorem dX2_isLevelAt_62 : decode cX2_isLevelAt 62 = .ok (.iadd, 1) := by decide +kernel
theorem dX2_isLevelAt_63 : decode cX2_isLevelAt 63 = .ok (.aload_n 0, 1) := by decide +kernel
theorem dX2_isLevelAt_64 : decode cX2_isLevelAt 64 = .ok (.getfield 56, 3) := by decide +kernel
theorem dX2_isLevelAt_67 : decode cX2_isLevelAt 67 = .ok (.if_icmp .gt 7, 3) := by decide +kernel
theorem dX2_isLevelAt_70 : decode cX2_isLevelAt 70 = .ok (.iconst 1, 1) := by decide +kernel
theorem dX2_isLevelAt_71 : decode cX2_isLevelAt 71 = .ok (.goto 4, 3) := by decide +kernel
theorem dX2_isLevelAt_74 : decode cX2_isLevelAt 74 = .ok (.iconst 0, 1) := by decide +kernel
theorem dX2_isLevelAt_75 : decode cX2_isLevelAt 75 = .ok (.ireturn, 1) := by decide +kernel
set_option maxRecDepth 100000 in
def F_X2_isLevelAt_b75 (t0 : Int32) (h : Hp) : Option Int32 :=
  gd (decide (t0 = 0 ∨ t0 = 1)) <| some t0
set_option maxHeartbeats 4000000 in
set_option maxRecDepth 100000 in
theorem r_X2_isLevelAt_b75 (t0 : Int32) (h : Hp) {x : Cx} {r : Int32} (e : F_X2_isLevelAt_b75 t0 h = some r) (hF : Fin9 M_X2_isLevelAt x (some .boolean) (some (.int r)) h) : V M_X2_isLevelAt x 1 75 [] [.int t0] h 0 0 := by
  unfold F_X2_isLevelAt_b75 at e
  obtain ⟨g7, e⟩ := gd_some e
  cases e
  exact V_zret (pc := 75) dX2_isLevelAt_75 (z01 (of_decide_eq_true g7)) hF
set_option maxRecDepth 100000 in
def F_X2_isLevelAt_b74  (h : Hp) : Option Int32 :=
  F_X2_isLevelAt_b75 (0 : Int32) h
set_option maxHeartbeats 4000000 in
set_option maxRecDepth 100000 in
theorem r_X2_isLevelAt_b74  (h : Hp) {x : Cx} {r : Int32} (e : F_X2_isLevelAt_b74  h = some r) (hF : Fin9 M_X2_isLevelAt x (some .boolean) (some (.int r)) h) : V M_X2_isLevelAt x 1 74 [] [] h 0 0 := by
  unfold F_X2_isLevelAt_b74 at e
  refine V_iconst (pc := 74) (v := (0 : Int32)) dX2_isLevelAt_74 (by decide) ?_
  exact V_pick [] rfl (r_X2_isLevelAt_b75 (0 : Int32) h e hF)
set_option maxRecDepth 100000 in
def F_X2_isLevelAt_b0 (v0 : Nat) (v1 : Int32) (v2 : Int32) (v3 : Nat) (h : Hp) : Option Int32 :=
  gd (decide (kd h v0 = 2)) <| ob (zR h v0 1) fun q2 => ob (F_X8_lowest v3 q2 h) fun r5 => gd (decide (kd h v3 = 7)) <| (if (v1 + r5) < (0 - (zI h v0 12)) then F_X2_isLevelAt_b74 h else ob (zR h v0 1) fun q8 => ob (F_X8_highest v3 q8 h) fun r11 => (if (zI h v0 12) < (v1 + r11) then F_X2_isLevelAt_b74 h else ob (zR h v0 2) fun q12 => ob (F_X8_lowest v3 q12 h) fun r15 => (if (v2 + r15) < (0 - (zI h v0 12)) then F_X2_isLevelAt_b74 h else ob (zR h v0 2) fun q16 => ob (F_X8_highest v3 q16 h) fun r19 => (if (zI h v0 12) < (v2 + r19) then F_X2_isLevelAt_b74 h else F_X2_isLevelAt_b75 (1 : Int32) h))))
set_option maxHeartbeats 4000000 in
set_option maxRecDepth 100000 in
theorem r_X2_isLevelAt_b0 (v0 : Nat) (v1 : Int32) (v2 : Int32) (v3 : Nat) (h : Hp) {x : Cx} {r : Int32} (e : F_X2_isLevelAt_b0 v0 v1 v2 v3 h = some r) (hF : Fin9 M_X2_isLevelAt x (some .boolean) (some (.int r)) h) : V M_X2_isLevelAt x 1 0 [(0, .ref v0), (1, .int v1), (2, .int v2), (3, .ref v3)] [] h 0 0 := by
  unfold F_X2_isLevelAt_b0 at e
  refine V_iload_n (pc := 0) (i := 1) dX2_isLevelAt_0 rfl rfl ?_
  refine V_aload_n (pc := 1) (i := 3) dX2_isLevelAt_1 rfl rfl ?_
  refine V_aload_n (pc := 2) (i := 0) dX2_isLevelAt_2 rfl rfl ?_
  obtain ⟨g1, e⟩ := gd_some e
  obtain ⟨q2, g3, e⟩ := ob_some e
  refine V_getR (pc := 3) (ci := 2) (k := 1) (b := q2) dX2_isLevelAt_3 fl_X2_15 rfl (of_decide_eq_true g1) g3 ?_
  obtain ⟨r5, g4, e⟩ := ob_some e
  obtain ⟨g6, e⟩ := gd_some e
  refine V_callV (pc := 6) (bc := 0) (bs := 0) (mc := 0) (ms := 0) (st := [.int v1]) (As := [.ref q2]) (a := v3) (h' := h) (r := some (.int r5)) dX2_isLevelAt_6 ml_X2_125 (ci := 7) rfl (of_decide_eq_true g6) rfl rfl (Nat.le_of_ble_eq_true rfl) (d' := 0) (by decide) (c_X8_lowest (l := x.2.1) v3 q2 h g4) ?_
  refine V_iadd (pc := 9) dX2_isLevelAt_9 ?_
  refine V_aload_n (pc := 10) (i := 0) dX2_isLevelAt_10 rfl rfl ?_
  refine V_getI (pc := 11) (ci := 2) (k := 12) dX2_isLevelAt_11 fl_X2_56 rfl (of_decide_eq_true g1) ?_
  refine V_ineg (pc := 14) dX2_isLevelAt_14 ?_
  refine V_icmp_lt (pc := 15) (tgt := 74) dX2_isLevelAt_15 (by decide) (fun c23 => ?_) (fun c23 => ?_)
  · rw [if_pos c23] at e
    exact V_pick [] rfl (r_X2_isLevelAt_b74 h e hF)
  · rw [if_neg c23] at e
    refine V_pick [0, 1, 2, 3] rfl ?_
    refine V_iload_n (pc := 18) (i := 1) dX2_isLevelAt_18 rfl rfl ?_
    refine V_aload_n (pc := 19) (i := 3) dX2_isLevelAt_19 rfl rfl ?_
    refine V_aload_n (pc := 20) (i := 0) dX2_isLevelAt_20 rfl rfl ?_
    obtain ⟨q8, g9, e⟩ := ob_some e
    refine V_getR (pc := 21) (ci := 2) (k := 1) (b := q8) dX2_isLevelAt_21 fl_X2_15 rfl (of_decide_eq_true g1) g9 ?_
    obtain ⟨r11, g10, e⟩ := ob_some e
    refine V_callV (pc := 24) (bc := 0) (bs := 0) (mc := 0) (ms := 0) (st := [.int v1]) (As := [.ref q8]) (a := v3) (h' := h) (r := some (.int r11)) dX2_isLevelAt_24 ml_X2_129 (ci := 7) rfl (of_decide_eq_true g6) rfl rfl (Nat.le_of_ble_eq_true rfl) (d' := 0) (by decide) (c_X8_highest (l := x.2.1) v3 q8 h g10) ?_
    refine V_iadd (pc := 27) dX2_isLevelAt_27 ?_
    refine V_aload_n (pc := 28) (i := 0) dX2_isLevelAt_28 rfl rfl ?_
    refine V_getI (pc := 29) (ci := 2) (k := 12) dX2_isLevelAt_29 fl_X2_56 rfl (of_decide_eq_true g1) ?_
    refine V_icmp_gt (pc := 32) (tgt := 74) dX2_isLevelAt_32 (by decide) (fun c22 => ?_) (fun c22 => ?_)
    · rw [if_pos c22] at e
      exact V_pick [] rfl (r_X2_isLevelAt_b74 h e hF)
    · rw [if_neg c22] at e
      refine V_pick [0, 2, 3] rfl ?_
      refine V_iload_n (pc := 35) (i := 2) dX2_isLevelAt_35 rfl rfl ?_
      refine V_aload_n (pc := 36) (i := 3) dX2_isLevelAt_36 rfl rfl ?_
      refine V_aload_n (pc := 37) (i := 0) dX2_isLevelAt_37 rfl rfl ?_
      obtain ⟨q12, g13, e⟩ := ob_some e
      refine V_getR (pc := 38) (ci := 2) (k := 2) (b := q12) dX2_isLevelAt_38 fl_X2_19 rfl (of_decide_eq_true g1) g13 ?_
      obtain ⟨r15, g14, e⟩ := ob_some e
      refine V_callV (pc := 41) (bc := 0) (bs := 0) (mc := 0) (ms := 0) (st := [.int v2]) (As := [.ref q12]) (a := v3) (h' := h) (r := some (.int r15)) dX2_isLevelAt_41 ml_X2_125 (ci := 7) rfl (of_decide_eq_true g6) rfl rfl (Nat.le_of_ble_eq_true rfl) (d' := 0) (by decide) (c_X8_lowest (l := x.2.1) v3 q12 h g14) ?_
      refine V_iadd (pc := 44) dX2_isLevelAt_44 ?_
      refine V_aload_n (pc := 45) (i := 0) dX2_isLevelAt_45 rfl rfl ?_
      refine V_getI (pc := 46) (ci := 2) (k := 12) dX2_isLevelAt_46 fl_X2_56 rfl (of_decide_eq_true g1) ?_
      refine V_ineg (pc := 49) dX2_isLevelAt_49 ?_
      refine V_icmp_lt (pc := 50) (tgt := 74) dX2_isLevelAt_50 (by decide) (fun c21 => ?_) (fun c21 => ?_)
      · rw [if_pos c21] at e
        exact V_pick [] rfl (r_X2_isLevelAt_b74 h e hF)
      · rw [if_neg c21] at e
        refine V_pick [0, 1, 2] rfl ?_
        refine V_iload_n (pc := 53) (i := 2) dX2_isLevelAt_53 rfl rfl ?_
        refine V_aload_n (pc := 54) (i := 3) dX2_isLevelAt_54 rfl rfl ?_
        refine V_aload_n (pc := 55) (i := 0) dX2_isLevelAt_55 rfl rfl ?_
        obtain ⟨q16, g17, e⟩ := ob_some e
        refine V_getR (pc := 56) (ci := 2) (k := 2) (b := q16) dX2_isLevelAt_56 fl_X2_19 rfl (of_decide_eq_true g1) g17 ?_
        obtain ⟨r19, g18, e⟩ := ob_some e
        refine V_callV (pc := 59) (bc := 0) (bs := 0) (mc := 0) (ms := 0) (st := [.int v2]) (As := [.ref q16]) (a := v3) (h' := h) (r := some (.int r19)) dX2_isLevelAt_59 ml_X2_129 (ci := 7) rfl (of_decide_eq_true g6) rfl rfl (Nat.le_of_ble_eq_true rfl) (d' := 0) (by decide) (c_X8_highest (l := x.2.1) v3 q16 h g18) ?_
        refine V_iadd (pc := 62) dX2_isLevelAt_62 ?_
        refine V_aload_n (pc := 63) (i := 0) dX2_isLevelAt_63 rfl rfl ?_
        refine V_getI (pc := 64) (ci := 2) (k := 12) dX2_isLevelAt_64 fl_X2_56 rfl (of_decide_eq_true g1) ?_
        refine V_icmp_gt (pc := 67) (tgt := 74) dX2_isLevelAt_67 (by decide) (fun c20 => ?_) (fun c20 => ?_)
        · rw [if_pos c20] at e
          exact V_pick [] rfl (r_X2_isLevelAt_b74 h e hF)
        · rw [if_neg c20] at e
          refine V_pick [] rfl ?_
          refine V_iconst (pc := 70) (v := (1 : Int32)) dX2_isLevelAt_70 (by decide) ?_
          refine V_goto (pc := 71) (tgt := 75) dX2_isLevelAt_71 (by decide) ?_
          exact V_pick [] rfl (r_X2_isLevelAt_b75 (1 : Int32) h e hF)
def F_X2_isLevelAt (v0 : Nat) (v1 : Int32) (v2 : Int32) (v3 : Nat) (h : Hp) : Option Int32 := F_X2_isLevelAt_b0 v0 v1 v2 v3 h
theorem c_X2_isLevelAt {l : Launch} (v0 : Nat) (v1 : Int32) (v2 : Int32) (v3 : Nat) (h : Hp) {r : Int32} (e : F_X2_isLevelAt v0 v1 v2 v3 h = some r) : Ct l yX2_isLevelAt M_X2_isLevelAt (some .boolean) 1 [.ref v0, .int v1, .int v2, .ref v3] h 0 0 (some (.int r)) h :=
  Ct_of rfl rfl (fun q => by cases q) (Nat.le_of_ble_eq_true rfl) (fun x _ hF => V_pick [0, 1, 2, 3] rfl (r_X2_isLevelAt_b0 v0 v1 v2 v3 h e hF))
theorem dX2_isSeating_0 : decode cX2_isSeating 0 = .ok (.iload_n 1, 1) := by decide +kernel
theorem dX2_isSeating_1 : decode cX2_isSeating 1 = .ok (.ifCond .lt 15, 3) := by decide +kernel
theorem dX2_isSeating_4 : decode cX2_isSeating 4 = .ok (.iload_n 1, 1) := by decide +kernel
theorem dX2_isSeating_5 : decode cX2_isSeating 5 = .ok (.iconst 1, 1) := by decide +kernel
theorem dX2_isSeating_6 : decode cX2_isSeating 6 = .ok (.iconst 3, 1) := by decide +kernel
theorem dX2_isSeating_7 : decode cX2_isSeating 7 = .ok (.aload_n 0, 1) := by decide +kernel
theorem dX2_isSeating_8 : decode cX2_isSeating 8 = .ok (.getfield 28, 3) := by decide +kernel
theorem dX2_isSeating_11 : decode cX2_isSeating 11 = .ok (.imul, 1) := by decide +kernel
theorem dX2_isSeating_12 : decode cX2_isSeating 12 = .ok (.ishl, 1) := by decide +kernel
theorem dX2_isSeating_13 : decode cX2_isSeating 13 = .ok (.if_icmp .lt 5, 3) := by decide +kernel
theorem dX2_isSeating_16 : decode cX2_isSeating 16 = .ok (.iconst 0, 1) := by decide +kernel
theorem dX2_isSeating_17 : decode cX2_isSeating 17 = .ok (.ireturn, 1) := by decide +kernel
theorem dX2_isSeating_18 : decode cX2_isSeating 18 = .ok (.iconst 0, 1) := by decide +kernel
theorem dX2_isSeating_19 : decode cX2_isSeating 19 = .ok (.istore_n 2, 1) := by decide +kernel
theorem dX2_isSeating_20 : decode cX2_isSeating 20 = .ok (.iload_n 2, 1) := by decide +kernel
theorem dX2_isSeating_21 : decode cX2_isSeating 21 = .ok (.aload_n 0, 1) := by decide +kernel
theorem dX2_isSeating_22 : decode cX2_isSeating 22 = .ok (.getfield 28, 3) := by decide +kernel
theorem dX2_isSeating_25 : decode cX2_isSeating 25 = .ok (.if_icmp .ge 43, 3) := by decide +kernel
theorem dX2_isSeating_28 : decode cX2_isSeating 28 = .ok (.iload_n 1, 1) := by decide +kernel
theorem dX2_isSeating_29 : decode cX2_isSeating 29 = .ok (.iconst 3, 1) := by decide +kernel
theorem dX2_isSeating_30 : decode cX2_isSeating 30 = .ok (.iload_n 2, 1) := by decide +kernel
theorem dX2_isSeating_31 : decode cX2_isSeating 31 = .ok (.imul, 1) := by decide +kernel
theorem dX2_isSeating_32 : decode cX2_isSeating 32 = .ok (.ishr, 1) := by decide +kernel
theorem dX2_isSeating_33 : decode cX2_isSeating 33 = .ok (.bipush 7, 2) := by decide +kernel
theorem dX2_isSeating_35 : decode cX2_isSeating 35 = .ok (.iand, 1) := by decide +kernel
theorem dX2_isSeating_36 : decode cX2_isSeating 36 = .ok (.istore_n 3, 1) := by decide +kernel
theorem dX2_isSeating_37 : decode cX2_isSeating 37 = .ok (.iload_n 3, 1) := by decide +kernel
theorem dX2_isSeating_38 : decode cX2_isSeating 38 = .ok (.aload_n 0, 1) := by decide +kernel
theorem dX2_isSeating_39 : decode cX2_isSeating 39 = .ok (.getfield 9, 3) := by decide +kernel
theorem dX2_isSeating_42 : decode cX2_isSeating 42 = .ok (.if_icmp .ge 18, 3) := by decide +kernel
theorem dX2_isSeating_45 : decode cX2_isSeating 45 = .ok (.aload_n 0, 1) := by decide +kernel
theorem dX2_isSeating_46 : decode cX2_isSeating 46 = .ok (.iload_n 1, 1) := by decide +kernel
theorem dX2_isSeating_47 : decode cX2_isSeating 47 = .ok (.iload_n 3, 1) := by decide +kernel
theorem dX2_isSeating_48 : decode cX2_isSeating 48 = .ok (.invokevirtual 132, 3) := by decide +kernel
theorem dX2_isSeating_51 : decode cX2_isSeating 51 = .ok (.aload_n 0, 1) := by decide +kernel
theorem dX2_isSeating_52 : decode cX2_isSeating 52 = .ok (.getfield 22, 3) := by decide +kernel
theorem dX2_isSeating_55 : decode cX2_isSeating 55 = .ok (.iload_n 3, 1) := by decide +kernel
theorem dX2_isSeating_56 : decode cX2_isSeating 56 = .ok (.iaload, 1) := by decide +kernel
theorem dX2_isSeating_57 : decode cX2_isSeating 57 = .ok (.if_icmp .le 5, 3) := by decide +kernel
theorem dX2_isSeating_60 : decode cX2_isSeating 60 = .ok (.iconst 0, 1) := by decide +kernel
theorem dX2_isSeating_61 : decode cX2_isSeating 61 = .ok (.ireturn, 1) := by decide +kernel
theorem dX2_isSeating_62 : decode cX2_isSeating 62 = .ok (.iinc 2 1, 3) := by decide +kernel
theorem dX2_isSeating_65 : decode cX2_isSeating 65 = .ok (.goto (-45), 3) := by decide +kernel
theorem dX2_isSeating_68 : decode cX2_isSeating 68 = .ok (.iconst 1, 1) := by decide +kernel
theorem dX2_isSeating_69 : decode cX2_isSeating 69 = .ok (.ireturn, 1) := by decide +kernel
set_option maxRecDepth 100000 in
def F_X2_isSeating_b16  (h : Hp) : Option Int32 :=
  some (0 : Int32)
set_option maxHeartbeats 4000000 in
set_option maxRecDepth 100000 in
theorem r_X2_isSeating_b16  (h : Hp) {x : Cx} {r : Int32} (e : F_X2_isSeating_b16  h = some r) (hF : Fin9 M_X2_isSeating x (some .boolean) (some (.int r)) h) : V M_X2_isSeating x 1 16 [] [] h 0 0 := by
  unfold F_X2_isSeating_b16 at e
  refine V_iconst (pc := 16) (v := (0 : Int32)) dX2_isSeating_16 (by decide) ?_
  cases e
  exact V_zret (pc := 17) dX2_isSeating_17 rfl hF
set_option maxRecDepth 100000 in
def F_X2_isSeating_l20 (v0 : Nat) (v1 : Int32) (v2 : Int32) (h : Hp) : Option (Int32 ⊕ (Unit ⊕ Unit)) :=
  gd (decide (kd h v0 = 2)) <| (if (zI h v0 5) ≤ v2 then some (.inr (.inl ())) else (if (zI h v0 0) ≤ ((v1 >>> (((3 : Int32) * v2) &&& 31)) &&& (7 : Int32)) then some (.inr (.inr ())) else ob (F_X2_headsOf v0 v1 ((v1 >>> (((3 : Int32) * v2) &&& 31)) &&& (7 : Int32)) h) fun r4 => ob (zR h v0 3) fun q5 => gd (decide (kd h q5 = 13)) <| gd (ix ((v1 >>> (((3 : Int32) * v2) &&& 31)) &&& (7 : Int32)) (zl h q5)) <| (if r4 ≤ (zI h q5 ((v1 >>> (((3 : Int32) * v2) &&& 31)) &&& (7 : Int32)).toNatClampNeg) then some (.inl (v2 + (1 : Int32))) else some (.inr (.inr ())))))
set_option maxHeartbeats 4000000 in
set_option maxRecDepth 100000 in
theorem r_X2_isSeating_l20 (v0 : Nat) (v1 : Int32) (v2 : Int32) (h : Hp) {x : Cx} {o : (Int32 ⊕ (Unit ⊕ Unit))} (e : F_X2_isSeating_l20 v0 v1 v2 h = some o) (kI : ∀ z, o = .inl z → V M_X2_isSeating x 1 20 [(0, .ref v0), (1, .int v1), (2, .int z)] [] h 0 0) (kE68 : ∀ z : Unit, o = .inr (.inl z) → V M_X2_isSeating x 1 68 [] [] h 0 0) (kE60 : ∀ z : Unit, o = .inr (.inr z) → V M_X2_isSeating x 1 60 [] [] h 0 0) : V M_X2_isSeating x 1 20 [(0, .ref v0), (1, .int v1), (2, .int v2)] [] h 0 0 := by
  unfold F_X2_isSeating_l20 at e
  refine V_iload_n (pc := 20) (i := 2) dX2_isSeating_20 rfl rfl ?_
  refine V_aload_n (pc := 21) (i := 0) dX2_isSeating_21 rfl rfl ?_
  obtain ⟨g2, e⟩ := gd_some e
  refine V_getI (pc := 22) (ci := 2) (k := 5) dX2_isSeating_22 fl_X2_28 rfl (of_decide_eq_true g2) ?_
  refine V_icmp_ge (pc := 25) (tgt := 68) dX2_isSeating_25 (by decide) (fun c11 => ?_) (fun c11 => ?_)
  · rw [if_pos c11] at e
    cases e
    exact V_pick [] rfl (kE68 () rfl)
  · rw [if_neg c11] at e
    refine V_pick [0, 1, 2] rfl ?_
    refine V_iload_n (pc := 28) (i := 1) dX2_isSeating_28 rfl rfl ?_
    refine V_iconst (pc := 29) (v := (3 : Int32)) dX2_isSeating_29 (by decide) ?_
    refine V_iload_n (pc := 30) (i := 2) dX2_isSeating_30 rfl rfl ?_
    refine V_imul (pc := 31) dX2_isSeating_31 ?_
    refine V_ishr (pc := 32) dX2_isSeating_32 ?_
    refine V_bipush (pc := 33) (v := (7 : Int32)) dX2_isSeating_33 (by decide) ?_
    refine V_iand (pc := 35) dX2_isSeating_35 ?_
    refine V_istore_n (pc := 36) (i := 3) (lv' := [(3, .int ((v1 >>> (((3 : Int32) * v2) &&& 31)) &&& (7 : Int32))), (0, .ref v0), (1, .int v1), (2, .int v2)]) dX2_isSeating_36 rfl (by decide) rfl ?_
    refine V_iload_n (pc := 37) (i := 3) dX2_isSeating_37 rfl rfl ?_
    refine V_aload_n (pc := 38) (i := 0) dX2_isSeating_38 rfl rfl ?_
    refine V_getI (pc := 39) (ci := 2) (k := 0) dX2_isSeating_39 fl_X2_9 rfl (of_decide_eq_true g2) ?_
    refine V_icmp_ge (pc := 42) (tgt := 60) dX2_isSeating_42 (by decide) (fun c10 => ?_) (fun c10 => ?_)
    · rw [if_pos c10] at e
      cases e
      exact V_pick [] rfl (kE60 () rfl)
    · rw [if_neg c10] at e
      refine V_pick [1, 2, 3, 0] rfl ?_
      refine V_aload_n (pc := 45) (i := 0) dX2_isSeating_45 rfl rfl ?_
      refine V_iload_n (pc := 46) (i := 1) dX2_isSeating_46 rfl rfl ?_
      refine V_iload_n (pc := 47) (i := 3) dX2_isSeating_47 rfl rfl ?_
      obtain ⟨r4, g3, e⟩ := ob_some e
      refine V_callV (pc := 48) (bc := 0) (bs := 0) (mc := 0) (ms := 0) (st := []) (As := [.int v1, .int ((v1 >>> (((3 : Int32) * v2) &&& 31)) &&& (7 : Int32))]) (a := v0) (h' := h) (r := some (.int r4)) dX2_isSeating_48 ml_X2_132 (ci := 2) rfl (of_decide_eq_true g2) rfl rfl (Nat.le_of_ble_eq_true rfl) (d' := 0) (by decide) (c_X2_headsOf (l := x.2.1) v0 v1 ((v1 >>> (((3 : Int32) * v2) &&& 31)) &&& (7 : Int32)) h g3) ?_
      refine V_aload_n (pc := 51) (i := 0) dX2_isSeating_51 rfl rfl ?_
      obtain ⟨q5, g6, e⟩ := ob_some e
      refine V_getR (pc := 52) (ci := 2) (k := 3) (b := q5) dX2_isSeating_52 fl_X2_22 rfl (of_decide_eq_true g2) g6 ?_
      refine V_iload_n (pc := 55) (i := 3) dX2_isSeating_55 rfl rfl ?_
      obtain ⟨g7, e⟩ := gd_some e
      obtain ⟨g8, e⟩ := gd_some e
      refine V_iald (pc := 56) dX2_isSeating_56 (of_decide_eq_true g7) (ix_in g8) ?_
      refine V_icmp_le (pc := 57) (tgt := 62) dX2_isSeating_57 (by decide) (fun c9 => ?_) (fun c9 => ?_)
      · rw [if_pos c9] at e
        refine V_pick [0, 1, 2] rfl ?_
        refine V_iinc (pc := 62) (i := 2) (u := v2 + (1 : Int32)) (lv' := [(2, .int (v2 + (1 : Int32))), (0, .ref v0), (1, .int v1)]) dX2_isSeating_62 rfl rfl (by decide) rfl ?_
        refine V_goto (pc := 65) (tgt := 20) dX2_isSeating_65 (by decide) ?_
        cases e
        exact V_pick [1, 2, 0] rfl (kI (v2 + (1 : Int32)) rfl)
      · rw [if_neg c9] at e
        cases e
        exact V_pick [] rfl (kE60 () rfl)
set_option maxRecDepth 100000 in
def F_X2_isSeating_b60  (h : Hp) : Option Int32 :=
  some (0 : Int32)
set_option maxHeartbeats 4000000 in
set_option maxRecDepth 100000 in
theorem r_X2_isSeating_b60  (h : Hp) {x : Cx} {r : Int32} (e : F_X2_isSeating_b60  h = some r) (hF : Fin9 M_X2_isSeating x (some .boolean) (some (.int r)) h) : V M_X2_isSeating x 1 60 [] [] h 0 0 := by
  unfold F_X2_isSeating_b60 at e
  refine V_iconst (pc := 60) (v := (0 : Int32)) dX2_isSeating_60 (by decide) ?_
  cases e
  exact V_zret (pc := 61) dX2_isSeating_61 rfl hF
set_option maxRecDepth 100000 in
def F_X2_isSeating_b0 (v0 : Nat) (v1 : Int32) (h : Hp) : Option Int32 :=
  (if v1 < 0 then F_X2_isSeating_b16 h else gd (decide (kd h v0 = 2)) <| (if v1 < ((1 : Int32) <<< (((3 : Int32) * (zI h v0 5)) &&& 31)) then ob (iter (fun z : Int32 => F_X2_isSeating_l20 v0 v1 z h) FU (0 : Int32)) (fun z => sm z (fun _ => some (1 : Int32)) (fun _ => F_X2_isSeating_b60 h)) else F_X2_isSeating_b16 h))
set_option maxHeartbeats 4000000 in
set_option maxRecDepth 100000 in
theorem r_X2_isSeating_b0 (v0 : Nat) (v1 : Int32) (h : Hp) {x : Cx} {r : Int32} (e : F_X2_isSeating_b0 v0 v1 h = some r) (hF : Fin9 M_X2_isSeating x (some .boolean) (some (.int r)) h) : V M_X2_isSeating x 1 0 [(0, .ref v0), (1, .int v1)] [] h 0 0 := by
  unfold F_X2_isSeating_b0 at e
  refine V_iload_n (pc := 0) (i := 1) dX2_isSeating_0 rfl rfl ?_
  refine V_if_lt (pc := 1) (tgt := 16) dX2_isSeating_1 (by decide) (fun c17 => ?_) (fun c17 => ?_)
  · rw [if_pos c17] at e
    exact V_pick [] rfl (r_X2_isSeating_b16 h e hF)
  · rw [if_neg c17] at e
    refine V_pick [0, 1] rfl ?_
    refine V_iload_n (pc := 4) (i := 1) dX2_isSeating_4 rfl rfl ?_
    refine V_iconst (pc := 5) (v := (1 : Int32)) dX2_isSeating_5 (by decide) ?_
    refine V_iconst (pc := 6) (v := (3 : Int32)) dX2_isSeating_6 (by decide) ?_
    refine V_aload_n (pc := 7) (i := 0) dX2_isSeating_7 rfl rfl ?_
    obtain ⟨g1, e⟩ := gd_some e
    refine V_getI (pc := 8) (ci := 2) (k := 5) dX2_isSeating_8 fl_X2_28 rfl (of_decide_eq_true g1) ?_
    refine V_imul (pc := 11) dX2_isSeating_11 ?_
    refine V_ishl (pc := 12) dX2_isSeating_12 ?_
    refine V_icmp_lt (pc := 13) (tgt := 18) dX2_isSeating_13 (by decide) (fun c16 => ?_) (fun c16 => ?_)
    · rw [if_pos c16] at e
      refine V_pick [0, 1] rfl ?_
      refine V_iconst (pc := 18) (v := (0 : Int32)) dX2_isSeating_18 (by decide) ?_
      refine V_istore_n (pc := 19) (i := 2) (lv' := [(2, .int (0 : Int32)), (0, .ref v0), (1, .int v1)]) dX2_isSeating_19 rfl (by decide) rfl ?_
      refine V_pick [1, 2, 0] rfl ?_
      obtain ⟨y12, g13, e⟩ := ob_some e
      refine iter_V (P := fun z : Int32 => V M_X2_isSeating x 1 20 [(0, .ref v0), (1, .int v1), (2, .int z)] [] h 0 0) (E := fun z => Sum.elim (fun z : Unit => V M_X2_isSeating x 1 68 [] [] h 0 0) (fun z : Unit => V M_X2_isSeating x 1 60 [] [] h 0 0) z) (fun z o e9 k1 k2 => r_X2_isSeating_l20 v0 v1 z h e9 (fun z hz9 => k1 z hz9) (fun z hz9 => k2 _ hz9) (fun z hz9 => k2 _ hz9)) _ _ _ g13 ?_
      clear g13
      rcases y12 with y14 | y15
      · replace e : (some (1 : Int32)) = some r := e
        show V M_X2_isSeating x 1 68 [] [] h 0 0
        refine V_iconst (pc := 68) (v := (1 : Int32)) dX2_isSeating_68 (by decide) ?_
        cases e
        exact V_zret (pc := 69) dX2_isSeating_69 rfl hF
      · replace e : (F_X2_isSeating_b60 h) = some r := e
        show V M_X2_isSeating x 1 60 [] [] h 0 0
        exact V_pick [] rfl (r_X2_isSeating_b60 h e hF)
    · rw [if_neg c16] at e
      exact V_pick [] rfl (r_X2_isSeating_b16 h e hF)
def F_X2_isSeating (v0 : Nat) (v1 : Int32) (h : Hp) : Option Int32 := F_X2_isSeating_b0 v0 v1 h
theorem c_X2_isSeating {l : Launch} (v0 : Nat) (v1 : Int32) (h : Hp) {r : Int32} (e : F_X2_isSeating v0 v1 h = some r) : Ct l yX2_isSeating M_X2_isSeating (some .boolean) 1 [.ref v0, .int v1] h 0 0 (some (.int r)) h :=
  Ct_of rfl rfl (fun q => by cases q) (Nat.le_of_ble_eq_true rfl) (fun x _ hF => V_pick [0, 1] rfl (r_X2_isSeating_b0 v0 v1 h e hF))
theorem dX3_init_0 : decode cX3_init 0 = .ok (.aload_n 0, 1) := by decide +kernel
theorem dX3_init_1 : decode cX3_init 1 = .ok (.invokespecial 3, 3) := by decide +kernel
theorem dX3_init_4 : decode cX3_init 4 = .ok (.aload_n 0, 1) := by decide +kernel
theorem dX3_init_5 : decode cX3_init 5 = .ok (.bipush 56, 2) := by decide +kernel
theorem dX3_init_7 : decode cX3_init 7 = .ok (.newarray .int, 2) := by decide +kernel
theorem dX3_init_9 : decode cX3_init 9 = .ok (.putfield 11, 3) := by decide +kernel
theorem dX3_init_12 : decode cX3_init 12 = .ok (.aload_n 0, 1) := by decide +kernel
theorem dX3_init_13 : decode cX3_init 13 = .ok (.iconst 0, 1) := by decide +kernel
theorem dX3_init_14 : decode cX3_init 14 = .ok (.putfield 15, 3) := by decide +kernel
theorem dX3_init_17 : decode cX3_init 17 = .ok (.aload_n 0, 1) := by decide +kernel
theorem dX3_init_18 : decode cX3_init 18 = .ok (.iconst 0, 1) := by decide +kernel
theorem dX3_init_19 : decode cX3_init 19 = .ok (.putfield 19, 3) := by decide +kernel
theorem dX3_init_22 : decode cX3_init 22 = .ok (.aload_n 0, 1) := by decide +kernel
theorem dX3_init_23 : decode cX3_init 23 = .ok (.iconst 0, 1) := by decide +kernel
theorem dX3_init_24 : decode cX3_init 24 = .ok (.putfield 22, 3) := by decide +kernel
theorem dX3_init_27 : decode cX3_init 27 = .ok (.return_, 1) := by decide +kernel
set_option maxRecDepth 100000 in
def F_X3_init_b0 (v0 : Nat) (h : Hp) : Option (Unit × Hp × Nat × Nat) :=
  ob2 (F_X7_init_k3 v0 h) fun _ h3 => ob (some (zN h3)) fun q4 => ac 1 ((56 : Int32)).toNatClampNeg <| gd (decide (kd (alloc h3 13 ((56 : Int32)).toNatClampNeg) v0 = 3)) <| ob (some (setI (setI (setI (setR (alloc h3 13 ((56 : Int32)).toNatClampNeg) v0 1 (some q4)) v0 2 (0 : Int32)) v0 3 (0 : Int32)) v0 4 (0 : Int32))) fun h9 => some ((), h9, 0, 0)
set_option maxHeartbeats 4000000 in
set_option maxRecDepth 100000 in
theorem r_X3_init_b0 (v0 : Nat) (h : Hp) {x : Cx} {r : Unit} {hz : Hp} {c9 s9 : Nat} (e : F_X3_init_b0 v0 h = some (r, hz, c9, s9)) (hF : Fin9 M_X3_init x none none hz) : V M_X3_init x 2 0 [(0, .ref v0)] [] h c9 s9 := by
  unfold F_X3_init_b0 at e
  refine V_aload_n (pc := 0) (i := 0) dX3_init_0 rfl rfl ?_
  replace e := ob2_some e
  obtain ⟨r2, h3, g1, e⟩ := e
  refine V_callI (pc := 1) (bc := c9) (bs := s9) (mc := 0) (ms := 0) (st := []) (As := []) (a := v0) (h' := h3) dX3_init_1 ml_X3_3 rfl rfl (Nat.le_of_ble_eq_true rfl) (d' := 1) (by decide) (c_X7_init_k3 (l := x.2.1) v0 h g1) ?_
  refine V_aload_n (pc := 4) (i := 0) dX3_init_4 rfl rfl ?_
  refine V_bipush (pc := 5) (v := (56 : Int32)) dX3_init_5 (by decide) ?_
  replace e := ob_some e
  obtain ⟨q4, g5, e⟩ := e
  replace e := ac_some e
  obtain ⟨n6, n7, e, hc9, hs9⟩ := e
  rw [hc9, hs9]
  clear hc9 hs9
  refine V_newIQ (pc := 7) (n := (56 : Int32)) dX3_init_7 wa_int (by decide) (by decide) (q := q4) (bc := n6) (bs := n7) (Option.some.inj g5) ?_
  replace e := gd_some e
  obtain ⟨g8, e⟩ := e
  refine V_putRF (pc := 9) (ci := 3) (k := 1) dX3_init_9 fp_X3_11 rfl (of_decide_eq_true g8) (fun _ => ⟨rfl, rfl⟩) rfl ?_
  refine V_aload_n (pc := 12) (i := 0) dX3_init_12 rfl rfl ?_
  refine V_iconst (pc := 13) (v := (0 : Int32)) dX3_init_13 (by decide) ?_
  refine V_putI (pc := 14) (ci := 3) (k := 2) dX3_init_14 fp_X3_15 rfl (kd_sR (of_decide_eq_true g8)) ?_
  refine V_aload_n (pc := 17) (i := 0) dX3_init_17 rfl rfl ?_
  refine V_iconst (pc := 18) (v := (0 : Int32)) dX3_init_18 (by decide) ?_
  refine V_putI (pc := 19) (ci := 3) (k := 3) dX3_init_19 fp_X3_19 rfl (kd_sI (kd_sR (of_decide_eq_true g8))) ?_
  refine V_aload_n (pc := 22) (i := 0) dX3_init_22 rfl rfl ?_
  refine V_iconst (pc := 23) (v := (0 : Int32)) dX3_init_23 (by decide) ?_
  refine V_putI (pc := 24) (ci := 3) (k := 4) dX3_init_24 fp_X3_22 rfl (kd_sI (kd_sI (kd_sR (of_decide_eq_true g8)))) ?_
  replace e := ob_some e
  obtain ⟨h9, g10, e⟩ := e
  refine V_hp (Option.some.inj g10) ?_
  have k11 : kd h9 q4 = 13 := kd_eq (h := (setI (setI (setI (setR (alloc h3 13 ((56 : Int32)).toNatClampNeg) v0 1 (some q4)) v0 2 (0 : Int32)) v0 3 (0 : Int32)) v0 4 (0 : Int32))) (Option.some.inj g10) (kd_sI (kd_sI (kd_sI (kd_sR (kd_newq (Option.some.inj g5))))))
  have k12 : kd h9 v0 = 3 := kd_eq (h := (setI (setI (setI (setR (alloc h3 13 ((56 : Int32)).toNatClampNeg) v0 1 (some q4)) v0 2 (0 : Int32)) v0 3 (0 : Int32)) v0 4 (0 : Int32))) (Option.some.inj g10) (kd_sI (kd_sI (kd_sI (kd_sR (of_decide_eq_true g8)))))
  cases e
  exact V_vret (pc := 27) dX3_init_27 hF
def F_X3_init (v0 : Nat) (h : Hp) : Option (Unit × Hp × Nat × Nat) := F_X3_init_b0 v0 h
theorem c_X3_init {l : Launch} (v0 : Nat) (h : Hp) {r : Unit} {hz : Hp} {c9 s9 : Nat} (e : F_X3_init v0 h = some (r, hz, c9, s9)) : Ct l yX3_init M_X3_init none 2 [.ref v0] h c9 s9 none hz :=
  Ct_of rfl rfl (fun _ => rfl) (Nat.le_of_ble_eq_true rfl) (fun x _ hF => V_pick [0] rfl (r_X3_init_b0 v0 h e hF))
theorem dX3_begin_0 : decode cX3_begin 0 = .ok (.aload_n 0, 1) := by decide +kernel
theorem dX3_begin_1 : decode cX3_begin 1 = .ok (.iconst 0, 1) := by decide +kernel
theorem dX3_begin_2 : decode cX3_begin 2 = .ok (.iload_n 1, 1) := by decide +kernel
theorem dX3_begin_3 : decode cX3_begin 3 = .ok (.invokevirtual 94, 3) := by decide +kernel
theorem dX3_begin_6 : decode cX3_begin 6 = .ok (.aload_n 2, 1) := by decide +kernel
theorem dX3_begin_7 : decode cX3_begin 7 = .ok (.invokevirtual 98, 3) := by decide +kernel
theorem dX3_begin_10 : decode cX3_begin 10 = .ok (.return_, 1) := by decide +kernel
set_option maxRecDepth 100000 in
def F_X3_begin_b0 (v0 : Nat) (v1 : Int32) (v2 : Nat) (h : Hp) : Option (Unit × Hp) :=
  ob2 (F_X3_put v0 (0 : Int32) v1 h) fun _ h3 => gd (decide (kd h v0 = 3)) <| ob2 (F_X6_lookAtNext v2 h3) fun _ h7 => gd (decide (kd h3 v2 = 6)) <| some ((), h7)
set_option maxHeartbeats 4000000 in
set_option maxRecDepth 100000 in
theorem r_X3_begin_b0 (v0 : Nat) (v1 : Int32) (v2 : Nat) (h : Hp) {x : Cx} {r : Unit} {hz : Hp} (e : F_X3_begin_b0 v0 v1 v2 h = some (r, hz)) (hF : Fin9 M_X3_begin x none none hz) : V M_X3_begin x 2 0 [(0, .ref v0), (1, .int v1), (2, .ref v2)] [] h 0 0 := by
  unfold F_X3_begin_b0 at e
  refine V_aload_n (pc := 0) (i := 0) dX3_begin_0 rfl rfl ?_
  refine V_iconst (pc := 1) (v := (0 : Int32)) dX3_begin_1 (by decide) ?_
  refine V_iload_n (pc := 2) (i := 1) dX3_begin_2 rfl rfl ?_
  obtain ⟨r2, h3, g1, e⟩ := ob2_some e
  obtain ⟨g4, e⟩ := gd_some e
  refine V_callV (pc := 3) (bc := 0) (bs := 0) (mc := 0) (ms := 0) (st := []) (As := [.int (0 : Int32), .int v1]) (a := v0) (h' := h3) (r := none) dX3_begin_3 ml_X3_94 (ci := 3) rfl (of_decide_eq_true g4) rfl rfl (Nat.le_of_ble_eq_true rfl) (d' := 0) (by decide) (c_X3_put (l := x.2.1) v0 (0 : Int32) v1 h g1) ?_
  refine V_aload_n (pc := 6) (i := 2) dX3_begin_6 rfl rfl ?_
  obtain ⟨r6, h7, g5, e⟩ := ob2_some e
  obtain ⟨g8, e⟩ := gd_some e
  refine V_callV (pc := 7) (bc := 0) (bs := 0) (mc := 0) (ms := 0) (st := []) (As := []) (a := v2) (h' := h7) (r := none) dX3_begin_7 ml_X3_98 (ci := 6) rfl (of_decide_eq_true g8) rfl rfl (Nat.le_of_ble_eq_true rfl) (d' := 1) (by decide) (c_X6_lookAtNext (l := x.2.1) v2 h3 g5) ?_
  cases e
  exact V_vret (pc := 10) dX3_begin_10 hF
def F_X3_begin (v0 : Nat) (v1 : Int32) (v2 : Nat) (h : Hp) : Option (Unit × Hp) := F_X3_begin_b0 v0 v1 v2 h
theorem c_X3_begin {l : Launch} (v0 : Nat) (v1 : Int32) (v2 : Nat) (h : Hp) {r : Unit} {hz : Hp} (e : F_X3_begin v0 v1 v2 h = some (r, hz)) : Ct l yX3_begin M_X3_begin none 2 [.ref v0, .int v1, .ref v2] h 0 0 none hz :=
  Ct_of rfl rfl (fun q => by cases q) (Nat.le_of_ble_eq_true rfl) (fun x _ hF => V_pick [0, 1, 2] rfl (r_X3_begin_b0 v0 v1 v2 h e hF))
theorem dX3_keep_0 : decode cX3_keep 0 = .ok (.aload 4, 2) := by decide +kernel
theorem dX3_keep_2 : decode cX3_keep 2 = .ok (.iload_n 2, 1) := by decide +kernel
theorem dX3_keep_3 : decode cX3_keep 3 = .ok (.iload_n 3, 1) := by decide +kernel
theorem dX3_keep_4 : decode cX3_keep 4 = .ok (.invokevirtual 101, 3) := by decide +kernel
theorem dX3_keep_7 : decode cX3_keep 7 = .ok (.ifCond .ne 5, 3) := by decide +kernel
theorem dX3_keep_10 : decode cX3_keep 10 = .ok (.iconst 0, 1) := by decide +kernel
theorem dX3_keep_11 : decode cX3_keep 11 = .ok (.ireturn, 1) := by decide +kernel
theorem dX3_keep_12 : decode cX3_keep 12 = .ok (.aload_n 0, 1) := by decide +kernel
theorem dX3_keep_13 : decode cX3_keep 13 = .ok (.iload_n 1, 1) := by decide +kernel
theorem dX3_keep_14 : decode cX3_keep 14 = .ok (.aload 4, 2) := by decide +kernel
theorem dX3_keep_16 : decode cX3_keep 16 = .ok (.getfield 91, 3) := by decide +kernel
theorem dX3_keep_19 : decode cX3_keep 19 = .ok (.invokevirtual 94, 3) := by decide +kernel
theorem dX3_keep_22 : decode cX3_keep 22 = .ok (.iconst 1, 1) := by decide +kernel
theorem dX3_keep_23 : decode cX3_keep 23 = .ok (.ireturn, 1) := by decide +kernel
set_option maxRecDepth 100000 in
def F_X3_keep_b0 (v0 : Nat) (v1 : Int32) (v2 : Int32) (v3 : Int32) (v4 : Nat) (h : Hp) : Option (Int32 × Hp) :=
  ob2 (F_X6_takeNumber v4 v2 v3 h) fun r2 h3 => gd (decide (kd h v4 = 6)) <| (if r2 = 0 then some ((0 : Int32), h3) else gd (decide (kd h3 v4 = 6)) <| ob2 (F_X3_put v0 v1 (zI h3 v4 5) h3) fun _ h8 => gd (decide (kd h3 v0 = 3)) <| some ((1 : Int32), h8))
set_option maxHeartbeats 4000000 in
set_option maxRecDepth 100000 in
theorem r_X3_keep_b0 (v0 : Nat) (v1 : Int32) (v2 : Int32) (v3 : Int32) (v4 : Nat) (h : Hp) {x : Cx} {r : Int32} {hz : Hp} (e : F_X3_keep_b0 v0 v1 v2 v3 v4 h = some (r, hz)) (hF : Fin9 M_X3_keep x (some .boolean) (some (.int r)) hz) : V M_X3_keep x 3 0 [(0, .ref v0), (1, .int v1), (2, .int v2), (3, .int v3), (4, .ref v4)] [] h 0 0 := by
  unfold F_X3_keep_b0 at e
  refine V_aload (pc := 0) (i := 4) dX3_keep_0 rfl ?_
  refine V_iload_n (pc := 2) (i := 2) dX3_keep_2 rfl rfl ?_
  refine V_iload_n (pc := 3) (i := 3) dX3_keep_3 rfl rfl ?_
  obtain ⟨r2, h3, g1, e⟩ := ob2_some e
  obtain ⟨g4, e⟩ := gd_some e
  refine V_callV (pc := 4) (bc := 0) (bs := 0) (mc := 0) (ms := 0) (st := []) (As := [.int v2, .int v3]) (a := v4) (h' := h3) (r := some (.int r2)) dX3_keep_4 ml_X3_101 (ci := 6) rfl (of_decide_eq_true g4) rfl rfl (Nat.le_of_ble_eq_true rfl) (d' := 2) (by decide) (c_X6_takeNumber (l := x.2.1) v4 v2 v3 h g1) ?_
  refine V_if_ne (pc := 7) (tgt := 12) dX3_keep_7 (by decide) (fun c10 => ?_) (fun c10 => ?_)
  · rw [if_neg c10] at e
    refine V_pick [0, 1, 4] rfl ?_
    refine V_aload_n (pc := 12) (i := 0) dX3_keep_12 rfl rfl ?_
    refine V_iload_n (pc := 13) (i := 1) dX3_keep_13 rfl rfl ?_
    refine V_aload (pc := 14) (i := 4) dX3_keep_14 rfl ?_
    obtain ⟨g5, e⟩ := gd_some e
    refine V_getI (pc := 16) (ci := 6) (k := 5) dX3_keep_16 fl_X3_91 rfl (of_decide_eq_true g5) ?_
    obtain ⟨r7, h8, g6, e⟩ := ob2_some e
    obtain ⟨g9, e⟩ := gd_some e
    refine V_callV (pc := 19) (bc := 0) (bs := 0) (mc := 0) (ms := 0) (st := []) (As := [.int v1, .int (zI h3 v4 5)]) (a := v0) (h' := h8) (r := none) dX3_keep_19 ml_X3_94 (ci := 3) rfl (of_decide_eq_true g9) rfl rfl (Nat.le_of_ble_eq_true rfl) (d' := 0) (by decide) (c_X3_put (l := x.2.1) v0 v1 (zI h3 v4 5) h3 g6) ?_
    refine V_iconst (pc := 22) (v := (1 : Int32)) dX3_keep_22 (by decide) ?_
    cases e
    exact V_zret (pc := 23) dX3_keep_23 rfl hF
  · rw [if_pos c10] at e
    refine V_pick [] rfl ?_
    refine V_iconst (pc := 10) (v := (0 : Int32)) dX3_keep_10 (by decide) ?_
    cases e
    exact V_zret (pc := 11) dX3_keep_11 rfl hF
def F_X3_keep (v0 : Nat) (v1 : Int32) (v2 : Int32) (v3 : Int32) (v4 : Nat) (h : Hp) : Option (Int32 × Hp) := F_X3_keep_b0 v0 v1 v2 v3 v4 h
theorem c_X3_keep {l : Launch} (v0 : Nat) (v1 : Int32) (v2 : Int32) (v3 : Int32) (v4 : Nat) (h : Hp) {r : Int32} {hz : Hp} (e : F_X3_keep v0 v1 v2 v3 v4 h = some (r, hz)) : Ct l yX3_keep M_X3_keep (some .boolean) 3 [.ref v0, .int v1, .int v2, .int v3, .ref v4] h 0 0 (some (.int r)) hz :=
  Ct_of rfl rfl (fun q => by cases q) (Nat.le_of_ble_eq_true rfl) (fun x _ hF => V_pick [0, 1, 2, 3, 4] rfl (r_X3_keep_b0 v0 v1 v2 v3 v4 h e hF))
theorem dX3_tellLine_0 : decode cX3_tellLine 0 = .ok (.iload_n 1, 1) := by decide +kernel
theorem dX3_tellLine_1 : decode cX3_tellLine 1 = .ok (.tableswitch 156 0 8 #[51, 62, 71, 85, 98, 108, 116, 124, 140], 51) := by decide +kernel
theorem dX3_tellLine_52 : decode cX3_tellLine 52 = .ok (.aload_n 0, 1) := by decide +kernel
theorem dX3_tellLine_53 : decode cX3_tellLine 53 = .ok (.iload_n 2, 1) := by decide +kernel
theorem dX3_tellLine_54 : decode cX3_tellLine 54 = .ok (.iload_n 3, 1) := by decide +kernel
theorem dX3_tellLine_55 : decode cX3_tellLine 55 = .ok (.iload 4, 2) := by decide +kernel
theorem dX3_tellLine_57 : decode cX3_tellLine 57 = .ok (.invokevirtual 112, 3) := by decide +kernel
theorem dX3_tellLine_60 : decode cX3_tellLine 60 = .ok (.goto 97, 3) := by decide +kernel
theorem dX3_tellLine_63 : decode cX3_tellLine 63 = .ok (.aload_n 0, 1) := by decide +kernel
theorem dX3_tellLine_64 : decode cX3_tellLine 64 = .ok (.iload_n 2, 1) := by decide +kernel
theorem dX3_tellLine_65 : decode cX3_tellLine 65 = .ok (.iload_n 3, 1) := by decide +kernel
theorem dX3_tellLine_66 : decode cX3_tellLine 66 = .ok (.invokevirtual 116, 3) := by decide +kernel
theorem dX3_tellLine_69 : decode cX3_tellLine 69 = .ok (.goto 88, 3) := by decide +kernel
theorem dX3_tellLine_72 : decode cX3_tellLine 72 = .ok (.aload_n 0, 1) := by decide +kernel
theorem dX3_tellLine_73 : decode cX3_tellLine 73 = .ok (.getfield 29, 3) := by decide +kernel
theorem dX3_tellLine_76 : decode cX3_tellLine 76 = .ok (.iload_n 2, 1) := by decide +kernel
theorem dX3_tellLine_77 : decode cX3_tellLine 77 = .ok (.iload_n 3, 1) := by decide +kernel
theorem dX3_tellLine_78 : decode cX3_tellLine 78 = .ok (.iload 4, 2) := by decide +kernel
theorem dX3_tellLine_80 : decode cX3_tellLine 80 = .ok (.invokevirtual 119, 3) := by decide +kernel
theorem dX3_tellLine_83 : decode cX3_tellLine 83 = .ok (.goto 74, 3) := by decide +kernel
theorem dX3_tellLine_86 : decode cX3_tellLine 86 = .ok (.aload_n 0, 1) := by decide +kernel
theorem dX3_tellLine_87 : decode cX3_tellLine 87 = .ok (.iload_n 2, 1) := by decide +kernel
theorem dX3_tellLine_88 : decode cX3_tellLine 88 = .ok (.putfield 122, 3) := by decide +kernel
theorem dX3_tellLine_91 : decode cX3_tellLine 91 = .ok (.aload_n 0, 1) := by decide +kernel
theorem dX3_tellLine_92 : decode cX3_tellLine 92 = .ok (.iload_n 3, 1) := by decide +kernel
theorem dX3_tellLine_93 : decode cX3_tellLine 93 = .ok (.putfield 125, 3) := by decide +kernel
theorem dX3_tellLine_96 : decode cX3_tellLine 96 = .ok (.goto 61, 3) := by decide +kernel
theorem dX3_tellLine_99 : decode cX3_tellLine 99 = .ok (.aload_n 0, 1) := by decide +kernel
theorem dX3_tellLine_100 : decode cX3_tellLine 100 = .ok (.getfield 128, 3) := by decide +kernel
theorem dX3_tellLine_103 : decode cX3_tellLine 103 = .ok (.iload_n 2, 1) := by decide +kernel
theorem dX3_tellLine_104 : decode cX3_tellLine 104 = .ok (.iload_n 3, 1) := by decide +kernel
theorem dX3_tellLine_105 : decode cX3_tellLine 105 = .ok (.iastore, 1) := by decide +kernel
theorem dX3_tellLine_106 : decode cX3_tellLine 106 = .ok (.goto 51, 3) := by decide +kernel
theorem dX3_tellLine_109 : decode cX3_tellLine 109 = .ok (.aload_n 0, 1) := by decide +kernel
theorem dX3_tellLine_110 : decode cX3_tellLine 110 = .ok (.iload_n 2, 1) := by decide +kernel
theorem dX3_tellLine_111 : decode cX3_tellLine 111 = .ok (.putfield 130, 3) := by decide +kernel
theorem dX3_tellLine_114 : decode cX3_tellLine 114 = .ok (.goto 43, 3) := by decide +kernel
theorem dX3_tellLine_117 : decode cX3_tellLine 117 = .ok (.aload_n 0, 1) := by decide +kernel
theorem dX3_tellLine_118 : decode cX3_tellLine 118 = .ok (.iload_n 2, 1) := by decide +kernel
theorem dX3_tellLine_119 : decode cX3_tellLine 119 = .ok (.putfield 132, 3) := by decide +kernel
theorem dX3_tellLine_122 : decode cX3_tellLine 122 = .ok (.goto 35, 3) := by decide +kernel
theorem dX3_tellLine_125 : decode cX3_tellLine 125 = .ok (.aload_n 0, 1) := by decide +kernel
theorem dX3_tellLine_126 : decode cX3_tellLine 126 = .ok (.getfield 134, 3) := by decide +kernel
theorem dX3_tellLine_129 : decode cX3_tellLine 129 = .ok (.iload_n 2, 1) := by decide +kernel
theorem dX3_tellLine_130 : decode cX3_tellLine 130 = .ok (.aload_n 0, 1) := by decide +kernel
theorem dX3_tellLine_131 : decode cX3_tellLine 131 = .ok (.getfield 134, 3) := by decide +kernel
theorem dX3_tellLine_134 : decode cX3_tellLine 134 = .ok (.iload_n 2, 1) := by decide +kernel
theorem dX3_tellLine_135 : decode cX3_tellLine 135 = .ok (.iaload, 1) := by decide +kernel
theorem dX3_tellLine_136 : decode cX3_tellLine 136 = .ok (.ineg, 1) := by decide +kernel
theorem dX3_tellLine_137 : decode cX3_tellLine 137 = .ok (.iastore, 1) := by decide +kernel
theorem dX3_tellLine_138 : decode cX3_tellLine 138 = .ok (.goto 19, 3) := by decide +kernel
theorem dX3_tellLine_141 : decode cX3_tellLine 141 = .ok (.aload_n 0, 1) := by decide +kernel
theorem dX3_tellLine_142 : decode cX3_tellLine 142 = .ok (.getfield 137, 3) := by decide +kernel
theorem dX3_tellLine_145 : decode cX3_tellLine 145 = .ok (.iload_n 2, 1) := by decide +kernel
theorem dX3_tellLine_146 : decode cX3_tellLine 146 = .ok (.aload_n 0, 1) := by decide +kernel
theorem dX3_tellLine_147 : decode cX3_tellLine 147 = .ok (.getfield 137, 3) := by decide +kernel
theorem dX3_tellLine_150 : decode cX3_tellLine 150 = .ok (.iload_n 2, 1) := by decide +kernel
theorem dX3_tellLine_151 : decode cX3_tellLine 151 = .ok (.iaload, 1) := by decide +kernel
theorem dX3_tellLine_152 : decode cX3_tellLine 152 = .ok (.ineg, 1) := by decide +kernel
theorem dX3_tellLine_153 : decode cX3_tellLine 153 = .ok (.iastore, 1) := by decide +kernel
theorem dX3_tellLine_154 : decode cX3_tellLine 154 = .ok (.goto 3, 3) := by decide +kernel
theorem dX3_tellLine_157 : decode cX3_tellLine 157 = .ok (.return_, 1) := by decide +kernel
set_option maxRecDepth 100000 in
def F_X3_tellLine_b157  (h : Hp) : Option (Unit × Hp) :=
  some ((), h)
set_option maxHeartbeats 4000000 in
set_option maxRecDepth 100000 in
theorem r_X3_tellLine_b157  (h : Hp) {x : Cx} {r : Unit} {hz : Hp} (e : F_X3_tellLine_b157  h = some (r, hz)) (hF : Fin9 M_X3_tellLine x none none hz) : V M_X3_tellLine x 1 157 [] [] h 0 0 := by
  unfold F_X3_tellLine_b157 at e
  cases e
  exact V_vret (pc := 157) dX3_tellLine_157 hF
set_option maxRecDepth 100000 in
def F_X3_tellLine_b0 (v0 : Nat) (v1 : Int32) (v2 : Int32) (v3 : Int32) (v4 : Int32) (h : Hp) : Option (Unit × Hp) :=
  (if v1 = (0 : Int32) then ob2 (F_X2_addRoom v0 v2 v3 v4 h) fun _ h3 => gd (decide (kd h v0 = 2)) <| F_X3_tellLine_b157 h3 else if v1 = (1 : Int32) then ob2 (F_X2_addGuest v0 v2 v3 h) fun _ h8 => gd (decide (kd h v0 = 2)) <| F_X3_tellLine_b157 h8 else if v1 = (2 : Int32) then gd (decide (kd h v0 = 2)) <| ob (zR h v0 9) fun q12 => ob2 (F_X8_add q12 v2 v3 v4 h) fun _ h16 => gd (decide (kd h q12 = 7)) <| F_X3_tellLine_b157 h16 else if v1 = (3 : Int32) then gd (decide (kd h v0 = 2)) <| F_X3_tellLine_b157 (setI (setI h v0 10 v2) v0 11 v3) else if v1 = (4 : Int32) then gd (decide (kd h v0 = 2)) <| ob (zR h v0 4) fun q22 => gd (decide (kd h q22 = 13)) <| gd (ix v2 (zl h q22)) <| F_X3_tellLine_b157 (setI h q22 (v2).toNatClampNeg v3) else if v1 = (5 : Int32) then gd (decide (kd h v0 = 2)) <| F_X3_tellLine_b157 (setI h v0 12 v2) else if v1 = (6 : Int32) then gd (decide (kd h v0 = 2)) <| F_X3_tellLine_b157 (setI h v0 13 v2) else if v1 = (7 : Int32) then gd (decide (kd h v0 = 2)) <| ob (zR h v0 1) fun q32 => ob (zR h v0 1) fun q34 => gd (decide (kd h q34 = 13)) <| gd (ix v2 (zl h q34)) <| gd (decide (kd h q32 = 13)) <| gd (ix v2 (zl h q32)) <| F_X3_tellLine_b157 (setI h q32 (v2).toNatClampNeg (0 - (zI h q34 (v2).toNatClampNeg))) else if v1 = (8 : Int32) then gd (decide (kd h v0 = 2)) <| ob (zR h v0 2) fun q42 => ob (zR h v0 2) fun q44 => gd (decide (kd h q44 = 13)) <| gd (ix v2 (zl h q44)) <| gd (decide (kd h q42 = 13)) <| gd (ix v2 (zl h q42)) <| F_X3_tellLine_b157 (setI h q42 (v2).toNatClampNeg (0 - (zI h q44 (v2).toNatClampNeg))) else F_X3_tellLine_b157 h)
set_option maxHeartbeats 4000000 in
set_option maxRecDepth 100000 in
theorem r_X3_tellLine_b0 (v0 : Nat) (v1 : Int32) (v2 : Int32) (v3 : Int32) (v4 : Int32) (h : Hp) {x : Cx} {r : Unit} {hz : Hp} (e : F_X3_tellLine_b0 v0 v1 v2 v3 v4 h = some (r, hz)) (hF : Fin9 M_X3_tellLine x none none hz) : V M_X3_tellLine x 1 0 [(0, .ref v0), (1, .int v1), (2, .int v2), (3, .int v3), (4, .int v4)] [] h 0 0 := by
  unfold F_X3_tellLine_b0 at e
  refine V_iload_n (pc := 0) (i := 1) dX3_tellLine_0 rfl rfl ?_
  by_cases c5 : v1 = (0 : Int32)
  · rw [if_pos c5] at e
    refine V_tableIn (pc := 1) (tgt := 52) dX3_tellLine_1 (by rw [c5]; decide) (by rw [c5]; decide) (by rw [c5]; rfl) (by decide) ?_
    refine V_pick [0, 2, 3, 4] rfl ?_
    refine V_aload_n (pc := 52) (i := 0) dX3_tellLine_52 rfl rfl ?_
    refine V_iload_n (pc := 53) (i := 2) dX3_tellLine_53 rfl rfl ?_
    refine V_iload_n (pc := 54) (i := 3) dX3_tellLine_54 rfl rfl ?_
    refine V_iload (pc := 55) (i := 4) dX3_tellLine_55 rfl ?_
    obtain ⟨r2, h3, g1, e⟩ := ob2_some e
    obtain ⟨g4, e⟩ := gd_some e
    refine V_callV (pc := 57) (bc := 0) (bs := 0) (mc := 0) (ms := 0) (st := []) (As := [.int v2, .int v3, .int v4]) (a := v0) (h' := h3) (r := none) dX3_tellLine_57 ml_X3_112 (ci := 2) rfl (of_decide_eq_true g4) rfl rfl (Nat.le_of_ble_eq_true rfl) (d' := 0) (by decide) (c_X2_addRoom (l := x.2.1) v0 v2 v3 v4 h g1) ?_
    refine V_goto (pc := 60) (tgt := 157) dX3_tellLine_60 (by decide) ?_
    exact V_pick [] rfl (r_X3_tellLine_b157 h3 e hF)
  · rw [if_neg c5] at e
    by_cases c10 : v1 = (1 : Int32)
    · rw [if_pos c10] at e
      refine V_tableIn (pc := 1) (tgt := 63) dX3_tellLine_1 (by rw [c10]; decide) (by rw [c10]; decide) (by rw [c10]; rfl) (by decide) ?_
      refine V_pick [0, 2, 3] rfl ?_
      refine V_aload_n (pc := 63) (i := 0) dX3_tellLine_63 rfl rfl ?_
      refine V_iload_n (pc := 64) (i := 2) dX3_tellLine_64 rfl rfl ?_
      refine V_iload_n (pc := 65) (i := 3) dX3_tellLine_65 rfl rfl ?_
      obtain ⟨r7, h8, g6, e⟩ := ob2_some e
      obtain ⟨g9, e⟩ := gd_some e
      refine V_callV (pc := 66) (bc := 0) (bs := 0) (mc := 0) (ms := 0) (st := []) (As := [.int v2, .int v3]) (a := v0) (h' := h8) (r := none) dX3_tellLine_66 ml_X3_116 (ci := 2) rfl (of_decide_eq_true g9) rfl rfl (Nat.le_of_ble_eq_true rfl) (d' := 0) (by decide) (c_X2_addGuest (l := x.2.1) v0 v2 v3 h g6) ?_
      refine V_goto (pc := 69) (tgt := 157) dX3_tellLine_69 (by decide) ?_
      exact V_pick [] rfl (r_X3_tellLine_b157 h8 e hF)
    · rw [if_neg c10] at e
      by_cases c18 : v1 = (2 : Int32)
      · rw [if_pos c18] at e
        refine V_tableIn (pc := 1) (tgt := 72) dX3_tellLine_1 (by rw [c18]; decide) (by rw [c18]; decide) (by rw [c18]; rfl) (by decide) ?_
        refine V_pick [0, 2, 3, 4] rfl ?_
        refine V_aload_n (pc := 72) (i := 0) dX3_tellLine_72 rfl rfl ?_
        obtain ⟨g11, e⟩ := gd_some e
        obtain ⟨q12, g13, e⟩ := ob_some e
        refine V_getR (pc := 73) (ci := 2) (k := 9) (b := q12) dX3_tellLine_73 fl_X3_29 rfl (of_decide_eq_true g11) g13 ?_
        refine V_iload_n (pc := 76) (i := 2) dX3_tellLine_76 rfl rfl ?_
        refine V_iload_n (pc := 77) (i := 3) dX3_tellLine_77 rfl rfl ?_
        refine V_iload (pc := 78) (i := 4) dX3_tellLine_78 rfl ?_
        obtain ⟨r15, h16, g14, e⟩ := ob2_some e
        obtain ⟨g17, e⟩ := gd_some e
        refine V_callV (pc := 80) (bc := 0) (bs := 0) (mc := 0) (ms := 0) (st := []) (As := [.int v2, .int v3, .int v4]) (a := q12) (h' := h16) (r := none) dX3_tellLine_80 ml_X3_119 (ci := 7) rfl (of_decide_eq_true g17) rfl rfl (Nat.le_of_ble_eq_true rfl) (d' := 0) (by decide) (c_X8_add (l := x.2.1) q12 v2 v3 v4 h g14) ?_
        refine V_goto (pc := 83) (tgt := 157) dX3_tellLine_83 (by decide) ?_
        exact V_pick [] rfl (r_X3_tellLine_b157 h16 e hF)
      · rw [if_neg c18] at e
        by_cases c20 : v1 = (3 : Int32)
        · rw [if_pos c20] at e
          refine V_tableIn (pc := 1) (tgt := 86) dX3_tellLine_1 (by rw [c20]; decide) (by rw [c20]; decide) (by rw [c20]; rfl) (by decide) ?_
          refine V_pick [0, 2, 3] rfl ?_
          refine V_aload_n (pc := 86) (i := 0) dX3_tellLine_86 rfl rfl ?_
          refine V_iload_n (pc := 87) (i := 2) dX3_tellLine_87 rfl rfl ?_
          obtain ⟨g19, e⟩ := gd_some e
          refine V_putI (pc := 88) (ci := 2) (k := 10) dX3_tellLine_88 fp_X3_122 rfl (of_decide_eq_true g19) ?_
          refine V_aload_n (pc := 91) (i := 0) dX3_tellLine_91 rfl rfl ?_
          refine V_iload_n (pc := 92) (i := 3) dX3_tellLine_92 rfl rfl ?_
          refine V_putI (pc := 93) (ci := 2) (k := 11) dX3_tellLine_93 fp_X3_125 rfl (kd_sI (of_decide_eq_true g19)) ?_
          refine V_goto (pc := 96) (tgt := 157) dX3_tellLine_96 (by decide) ?_
          exact V_pick [] rfl (r_X3_tellLine_b157 (setI (setI h v0 10 v2) v0 11 v3) e hF)
        · rw [if_neg c20] at e
          by_cases c26 : v1 = (4 : Int32)
          · rw [if_pos c26] at e
            refine V_tableIn (pc := 1) (tgt := 99) dX3_tellLine_1 (by rw [c26]; decide) (by rw [c26]; decide) (by rw [c26]; rfl) (by decide) ?_
            refine V_pick [0, 2, 3] rfl ?_
            refine V_aload_n (pc := 99) (i := 0) dX3_tellLine_99 rfl rfl ?_
            obtain ⟨g21, e⟩ := gd_some e
            obtain ⟨q22, g23, e⟩ := ob_some e
            refine V_getR (pc := 100) (ci := 2) (k := 4) (b := q22) dX3_tellLine_100 fl_X3_128 rfl (of_decide_eq_true g21) g23 ?_
            refine V_iload_n (pc := 103) (i := 2) dX3_tellLine_103 rfl rfl ?_
            refine V_iload_n (pc := 104) (i := 3) dX3_tellLine_104 rfl rfl ?_
            obtain ⟨g24, e⟩ := gd_some e
            obtain ⟨g25, e⟩ := gd_some e
            refine V_iast (pc := 105) dX3_tellLine_105 (of_decide_eq_true g24) (ix_in g25) ?_
            refine V_goto (pc := 106) (tgt := 157) dX3_tellLine_106 (by decide) ?_
            exact V_pick [] rfl (r_X3_tellLine_b157 (setI h q22 (v2).toNatClampNeg v3) e hF)
          · rw [if_neg c26] at e
            by_cases c28 : v1 = (5 : Int32)
            · rw [if_pos c28] at e
              refine V_tableIn (pc := 1) (tgt := 109) dX3_tellLine_1 (by rw [c28]; decide) (by rw [c28]; decide) (by rw [c28]; rfl) (by decide) ?_
              refine V_pick [0, 2] rfl ?_
              refine V_aload_n (pc := 109) (i := 0) dX3_tellLine_109 rfl rfl ?_
              refine V_iload_n (pc := 110) (i := 2) dX3_tellLine_110 rfl rfl ?_
              obtain ⟨g27, e⟩ := gd_some e
              refine V_putI (pc := 111) (ci := 2) (k := 12) dX3_tellLine_111 fp_X3_130 rfl (of_decide_eq_true g27) ?_
              refine V_goto (pc := 114) (tgt := 157) dX3_tellLine_114 (by decide) ?_
              exact V_pick [] rfl (r_X3_tellLine_b157 (setI h v0 12 v2) e hF)
            · rw [if_neg c28] at e
              by_cases c30 : v1 = (6 : Int32)
              · rw [if_pos c30] at e
                refine V_tableIn (pc := 1) (tgt := 117) dX3_tellLine_1 (by rw [c30]; decide) (by rw [c30]; decide) (by rw [c30]; rfl) (by decide) ?_
                refine V_pick [0, 2] rfl ?_
                refine V_aload_n (pc := 117) (i := 0) dX3_tellLine_117 rfl rfl ?_
                refine V_iload_n (pc := 118) (i := 2) dX3_tellLine_118 rfl rfl ?_
                obtain ⟨g29, e⟩ := gd_some e
                refine V_putI (pc := 119) (ci := 2) (k := 13) dX3_tellLine_119 fp_X3_132 rfl (of_decide_eq_true g29) ?_
                refine V_goto (pc := 122) (tgt := 157) dX3_tellLine_122 (by decide) ?_
                exact V_pick [] rfl (r_X3_tellLine_b157 (setI h v0 13 v2) e hF)
              · rw [if_neg c30] at e
                by_cases c40 : v1 = (7 : Int32)
                · rw [if_pos c40] at e
                  refine V_tableIn (pc := 1) (tgt := 125) dX3_tellLine_1 (by rw [c40]; decide) (by rw [c40]; decide) (by rw [c40]; rfl) (by decide) ?_
                  refine V_pick [0, 2] rfl ?_
                  refine V_aload_n (pc := 125) (i := 0) dX3_tellLine_125 rfl rfl ?_
                  obtain ⟨g31, e⟩ := gd_some e
                  obtain ⟨q32, g33, e⟩ := ob_some e
                  refine V_getR (pc := 126) (ci := 2) (k := 1) (b := q32) dX3_tellLine_126 fl_X3_134 rfl (of_decide_eq_true g31) g33 ?_
                  refine V_iload_n (pc := 129) (i := 2) dX3_tellLine_129 rfl rfl ?_
                  refine V_aload_n (pc := 130) (i := 0) dX3_tellLine_130 rfl rfl ?_
                  obtain ⟨q34, g35, e⟩ := ob_some e
                  refine V_getR (pc := 131) (ci := 2) (k := 1) (b := q34) dX3_tellLine_131 fl_X3_134 rfl (of_decide_eq_true g31) g35 ?_
                  refine V_iload_n (pc := 134) (i := 2) dX3_tellLine_134 rfl rfl ?_
                  obtain ⟨g36, e⟩ := gd_some e
                  obtain ⟨g37, e⟩ := gd_some e
                  refine V_iald (pc := 135) dX3_tellLine_135 (of_decide_eq_true g36) (ix_in g37) ?_
                  refine V_ineg (pc := 136) dX3_tellLine_136 ?_
                  obtain ⟨g38, e⟩ := gd_some e
                  obtain ⟨g39, e⟩ := gd_some e
                  refine V_iast (pc := 137) dX3_tellLine_137 (of_decide_eq_true g38) (ix_in g39) ?_
                  refine V_goto (pc := 138) (tgt := 157) dX3_tellLine_138 (by decide) ?_
                  exact V_pick [] rfl (r_X3_tellLine_b157 (setI h q32 (v2).toNatClampNeg (0 - (zI h q34 (v2).toNatClampNeg))) e hF)
                · rw [if_neg c40] at e
                  by_cases c50 : v1 = (8 : Int32)
                  · rw [if_pos c50] at e
                    refine V_tableIn (pc := 1) (tgt := 141) dX3_tellLine_1 (by rw [c50]; decide) (by rw [c50]; decide) (by rw [c50]; rfl) (by decide) ?_
                    refine V_pick [0, 2] rfl ?_
                    refine V_aload_n (pc := 141) (i := 0) dX3_tellLine_141 rfl rfl ?_
                    obtain ⟨g41, e⟩ := gd_some e
                    obtain ⟨q42, g43, e⟩ := ob_some e
                    refine V_getR (pc := 142) (ci := 2) (k := 2) (b := q42) dX3_tellLine_142 fl_X3_137 rfl (of_decide_eq_true g41) g43 ?_
                    refine V_iload_n (pc := 145) (i := 2) dX3_tellLine_145 rfl rfl ?_
                    refine V_aload_n (pc := 146) (i := 0) dX3_tellLine_146 rfl rfl ?_
                    obtain ⟨q44, g45, e⟩ := ob_some e
                    refine V_getR (pc := 147) (ci := 2) (k := 2) (b := q44) dX3_tellLine_147 fl_X3_137 rfl (of_decide_eq_true g41) g45 ?_
                    refine V_iload_n (pc := 150) (i := 2) dX3_tellLine_150 rfl rfl ?_
                    obtain ⟨g46, e⟩ := gd_some e
                    obtain ⟨g47, e⟩ := gd_some e
                    refine V_iald (pc := 151) dX3_tellLine_151 (of_decide_eq_true g46) (ix_in g47) ?_
                    refine V_ineg (pc := 152) dX3_tellLine_152 ?_
                    obtain ⟨g48, e⟩ := gd_some e
                    obtain ⟨g49, e⟩ := gd_some e
                    refine V_iast (pc := 153) dX3_tellLine_153 (of_decide_eq_true g48) (ix_in g49) ?_
                    refine V_goto (pc := 154) (tgt := 157) dX3_tellLine_154 (by decide) ?_
                    exact V_pick [] rfl (r_X3_tellLine_b157 (setI h q42 (v2).toNatClampNeg (0 - (zI h q44 (v2).toNatClampNeg))) e hF)
                  · rw [if_neg c50] at e
                    refine V_tableOut (pc := 1) (tgt := 157) dX3_tellLine_1 (by have q0 := tI_ne c5 (z := 0) (by decide); have q1 := tI_ne c10 (z := 1) (by decide); have q2 := tI_ne c18 (z := 2) (by decide); have q3 := tI_ne c20 (z := 3) (by decide); have q4 := tI_ne c26 (z := 4) (by decide); have q5 := tI_ne c28 (z := 5) (by decide); have q6 := tI_ne c30 (z := 6) (by decide); have q7 := tI_ne c40 (z := 7) (by decide); have q8 := tI_ne c50 (z := 8) (by decide); omega) (by decide) ?_
                    exact V_pick [] rfl (r_X3_tellLine_b157 h e hF)
def F_X3_tellLine (v0 : Nat) (v1 : Int32) (v2 : Int32) (v3 : Int32) (v4 : Int32) (h : Hp) : Option (Unit × Hp) := F_X3_tellLine_b0 v0 v1 v2 v3 v4 h
theorem c_X3_tellLine {l : Launch} (v0 : Nat) (v1 : Int32) (v2 : Int32) (v3 : Int32) (v4 : Int32) (h : Hp) {r : Unit} {hz : Hp} (e : F_X3_tellLine v0 v1 v2 v3 v4 h = some (r, hz)) : Ct l yX3_tellLine M_X3_tellLine none 1 [.ref v0, .int v1, .int v2, .int v3, .int v4] h 0 0 none hz :=
  Ct_of rfl rfl (fun q => by cases q) (Nat.le_of_ble_eq_true rfl) (fun x _ hF => V_pick [0, 1, 2, 3, 4] rfl (r_X3_tellLine_b0 v0 v1 v2 v3 v4 h e hF))
theorem dX4_firstBell_0 : decode cX4_firstBell 0 = .ok (.iconst 0, 1) := by decide +kernel
theorem dX4_firstBell_1 : decode cX4_firstBell 1 = .ok (.istore_n 3, 1) := by decide +kernel
theorem dX4_firstBell_2 : decode cX4_firstBell 2 = .ok (.iload_n 3, 1) := by decide +kernel
theorem dX4_firstBell_3 : decode cX4_firstBell 3 = .ok (.aload_n 2, 1) := by decide +kernel
theorem dX4_firstBell_4 : decode cX4_firstBell 4 = .ok (.getfield 31, 3) := by decide +kernel
theorem dX4_firstBell_7 : decode cX4_firstBell 7 = .ok (.if_icmp .ge 72, 3) := by decide +kernel
theorem dX4_firstBell_10 : decode cX4_firstBell 10 = .ok (.iconst 0, 1) := by decide +kernel
theorem dX4_firstBell_11 : decode cX4_firstBell 11 = .ok (.istore 4, 2) := by decide +kernel
theorem dX4_firstBell_13 : decode cX4_firstBell 13 = .ok (.iload 4, 2) := by decide +kernel
theorem dX4_firstBell_15 : decode cX4_firstBell 15 = .ok (.aload_n 2, 1) := by decide +kernel
theorem dX4_firstBell_16 : decode cX4_firstBell 16 = .ok (.getfield 68, 3) := by decide +kernel
theorem dX4_firstBell_19 : decode cX4_firstBell 19 = .ok (.if_icmp .ge 54, 3) := by decide +kernel
theorem dX4_firstBell_22 : decode cX4_firstBell 22 = .ok (.iload_n 1, 1) := by decide +kernel
theorem dX4_firstBell_23 : decode cX4_firstBell 23 = .ok (.iload_n 3, 1) := by decide +kernel
theorem dX4_firstBell_24 : decode cX4_firstBell 24 = .ok (.iload 4, 2) := by decide +kernel
theorem dX4_firstBell_26 : decode cX4_firstBell 26 = .ok (.invokestatic 64, 3) := by decide +kernel
theorem dX4_firstBell_29 : decode cX4_firstBell 29 = .ok (.istore 5, 2) := by decide +kernel
theorem dX4_firstBell_31 : decode cX4_firstBell 31 = .ok (.aload_n 0, 1) := by decide +kernel
theorem dX4_firstBell_32 : decode cX4_firstBell 32 = .ok (.getfield 9, 3) := by decide +kernel
theorem dX4_firstBell_35 : decode cX4_firstBell 35 = .ok (.iload 5, 2) := by decide +kernel
theorem dX4_firstBell_37 : decode cX4_firstBell 37 = .ok (.iaload, 1) := by decide +kernel
theorem dX4_firstBell_38 : decode cX4_firstBell 38 = .ok (.ifCond .lt 29, 3) := by decide +kernel
theorem dX4_firstBell_41 : decode cX4_firstBell 41 = .ok (.aload_n 0, 1) := by decide +kernel
theorem dX4_firstBell_42 : decode cX4_firstBell 42 = .ok (.getfield 9, 3) := by decide +kernel
theorem dX4_firstBell_45 : decode cX4_firstBell 45 = .ok (.iload 5, 2) := by decide +kernel
theorem dX4_firstBell_47 : decode cX4_firstBell 47 = .ok (.iaload, 1) := by decide +kernel
theorem dX4_firstBell_48 : decode cX4_firstBell 48 = .ok (.aload_n 0, 1) := by decide +kernel
theorem dX4_firstBell_49 : decode cX4_firstBell 49 = .ok (.getfield 9, 3) := by decide +kernel
theorem dX4_firstBell_52 : decode cX4_firstBell 52 = .ok (.iload_n 1, 1) := by decide +kernel
theorem dX4_firstBell_53 : decode cX4_firstBell 53 = .ok (.iaload, 1) := by decide +kernel
theorem dX4_firstBell_54 : decode cX4_firstBell 54 = .ok (.iconst 1, 1) := by decide +kernel
theorem dX4_firstBell_55 : decode cX4_firstBell 55 = .ok (.isub, 1) := by decide +kernel
theorem dX4_firstBell_56 : decode cX4_firstBell 56 = .ok (.if_icmp .ne 11, 3) := by decide +kernel
theorem dX4_firstBell_59 : decode cX4_firstBell 59 = .ok (.bipush 8, 2) := by decide +kernel
theorem dX4_firstBell_61 : decode cX4_firstBell 61 = .ok (.iload_n 3, 1) := by decide +kernel
theorem dX4_firstBell_62 : decode cX4_firstBell 62 = .ok (.imul, 1) := by decide +kernel
theorem dX4_firstBell_63 : decode cX4_firstBell 63 = .ok (.iload 4, 2) := by decide +kernel
theorem dX4_firstBell_65 : decode cX4_firstBell 65 = .ok (.iadd, 1) := by decide +kernel
theorem dX4_firstBell_66 : decode cX4_firstBell 66 = .ok (.ireturn, 1) := by decide +kernel
theorem dX4_firstBell_67 : decode cX4_firstBell 67 = .ok (.iinc 4 1, 3) := by decide +kernel
theorem dX4_firstBell_70 : decode cX4_firstBell 70 = .ok (.goto (-57), 3) := by decide +kernel
theorem dX4_firstBell_73 : decode cX4_firstBell 73 = .ok (.iinc 3 1, 3) := by decide +kernel
theorem dX4_firstBell_76 : decode cX4_firstBell 76 = .ok (.goto (-74), 3) := by decide +kernel
theorem dX4_firstBell_79 : decode cX4_firstBell 79 = .ok (.iconst (-1), 1) := by decide +kernel
theorem dX4_firstBell_80 : decode cX4_firstBell 80 = .ok (.ireturn, 1) := by decide +kernel
set_option maxRecDepth 100000 in
def F_X4_firstBell_b67 (v0 : Nat) (v1 : Int32) (v2 : Nat) (v3 : Int32) (v4 : Int32) (h : Hp) : Option (Int32 ⊕ (Unit ⊕ Int32)) :=
  some (.inl (v4 + (1 : Int32)))
set_option maxHeartbeats 4000000 in
set_option maxRecDepth 100000 in
theorem r_X4_firstBell_b67 (v0 : Nat) (v1 : Int32) (v2 : Nat) (v3 : Int32) (v4 : Int32) (h : Hp) {x : Cx} {o : (Int32 ⊕ (Unit ⊕ Int32))} (e : F_X4_firstBell_b67 v0 v1 v2 v3 v4 h = some o) (kI : ∀ z, o = .inl z → V M_X4_firstBell x 1 13 [(0, .ref v0), (1, .int v1), (2, .ref v2), (3, .int v3), (4, .int z)] [] h 0 0) (kE73 : ∀ z : Unit, o = .inr (.inl z) → V M_X4_firstBell x 1 73 [(0, .ref v0), (1, .int v1), (2, .ref v2), (3, .int v3)] [] h 0 0) (kE59 : ∀ z : Int32, o = .inr (.inr z) → V M_X4_firstBell x 1 59 [(3, .int v3), (4, .int z)] [] h 0 0) : V M_X4_firstBell x 1 67 [(0, .ref v0), (1, .int v1), (2, .ref v2), (3, .int v3), (4, .int v4)] [] h 0 0 := by
  unfold F_X4_firstBell_b67 at e
  refine V_iinc (pc := 67) (i := 4) (u := v4 + (1 : Int32)) (lv' := [(4, .int (v4 + (1 : Int32))), (0, .ref v0), (1, .int v1), (2, .ref v2), (3, .int v3)]) dX4_firstBell_67 rfl rfl (by decide) rfl ?_
  refine V_goto (pc := 70) (tgt := 13) dX4_firstBell_70 (by decide) ?_
  cases e
  exact V_pick [1, 2, 3, 4, 0] rfl (kI (v4 + (1 : Int32)) rfl)
set_option maxRecDepth 100000 in
def F_X4_firstBell_l13 (v0 : Nat) (v1 : Int32) (v2 : Nat) (v3 : Int32) (v4 : Int32) (h : Hp) : Option (Int32 ⊕ (Unit ⊕ Int32)) :=
  gd (decide (kd h v2 = 2)) <| (if (zI h v2 0) ≤ v4 then some (.inr (.inl ())) else ob (F_X4_sent v1 v3 v4 h) fun r4 => gd (decide (kd h v0 = 4)) <| ob (zR h v0 0) fun q6 => gd (decide (kd h q6 = 13)) <| gd (ix r4 (zl h q6)) <| (if (zI h q6 (r4).toNatClampNeg) < 0 then F_X4_firstBell_b67 v0 v1 v2 v3 v4 h else ob (zR h v0 0) fun q10 => gd (decide (kd h q10 = 13)) <| gd (ix r4 (zl h q10)) <| ob (zR h v0 0) fun q14 => gd (decide (kd h q14 = 13)) <| gd (ix v1 (zl h q14)) <| (if (zI h q10 (r4).toNatClampNeg) = ((zI h q14 (v1).toNatClampNeg) - (1 : Int32)) then some (.inr (.inr v4)) else F_X4_firstBell_b67 v0 v1 v2 v3 v4 h)))
set_option maxHeartbeats 4000000 in
set_option maxRecDepth 100000 in
theorem r_X4_firstBell_l13 (v0 : Nat) (v1 : Int32) (v2 : Nat) (v3 : Int32) (v4 : Int32) (h : Hp) {x : Cx} {o : (Int32 ⊕ (Unit ⊕ Int32))} (e : F_X4_firstBell_l13 v0 v1 v2 v3 v4 h = some o) (kI : ∀ z, o = .inl z → V M_X4_firstBell x 1 13 [(0, .ref v0), (1, .int v1), (2, .ref v2), (3, .int v3), (4, .int z)] [] h 0 0) (kE73 : ∀ z : Unit, o = .inr (.inl z) → V M_X4_firstBell x 1 73 [(0, .ref v0), (1, .int v1), (2, .ref v2), (3, .int v3)] [] h 0 0) (kE59 : ∀ z : Int32, o = .inr (.inr z) → V M_X4_firstBell x 1 59 [(3, .int v3), (4, .int z)] [] h 0 0) : V M_X4_firstBell x 1 13 [(0, .ref v0), (1, .int v1), (2, .ref v2), (3, .int v3), (4, .int v4)] [] h 0 0 := by
  unfold F_X4_firstBell_l13 at e
  refine V_iload (pc := 13) (i := 4) dX4_firstBell_13 rfl ?_
  refine V_aload_n (pc := 15) (i := 2) dX4_firstBell_15 rfl rfl ?_
  obtain ⟨g2, e⟩ := gd_some e
  refine V_getI (pc := 16) (ci := 2) (k := 0) dX4_firstBell_16 fl_X4_68 rfl (of_decide_eq_true g2) ?_
  refine V_icmp_ge (pc := 19) (tgt := 73) dX4_firstBell_19 (by decide) (fun c20 => ?_) (fun c20 => ?_)
  · rw [if_pos c20] at e
    cases e
    exact V_pick [0, 1, 2, 3] rfl (kE73 () rfl)
  · rw [if_neg c20] at e
    refine V_pick [0, 1, 2, 3, 4] rfl ?_
    refine V_iload_n (pc := 22) (i := 1) dX4_firstBell_22 rfl rfl ?_
    refine V_iload_n (pc := 23) (i := 3) dX4_firstBell_23 rfl rfl ?_
    refine V_iload (pc := 24) (i := 4) dX4_firstBell_24 rfl ?_
    obtain ⟨r4, g3, e⟩ := ob_some e
    refine V_callS (pc := 26) (bc := 0) (bs := 0) (mc := 0) (ms := 0) (st := []) (As := [.int v1, .int v3, .int v4]) (h' := h) (r := some (.int r4)) dX4_firstBell_26 ml_X4_64 rfl rfl (Nat.le_of_ble_eq_true rfl) (d' := 0) (by decide) (c_X4_sent (l := x.2.1) v1 v3 v4 h g3) ?_
    refine V_istore (pc := 29) (i := 5) (lv' := [(5, .int r4), (0, .ref v0), (1, .int v1), (2, .ref v2), (3, .int v3), (4, .int v4)]) dX4_firstBell_29 (by decide) rfl ?_
    refine V_aload_n (pc := 31) (i := 0) dX4_firstBell_31 rfl rfl ?_
    obtain ⟨g5, e⟩ := gd_some e
    obtain ⟨q6, g7, e⟩ := ob_some e
    refine V_getR (pc := 32) (ci := 4) (k := 0) (b := q6) dX4_firstBell_32 fl_X4_9 rfl (of_decide_eq_true g5) g7 ?_
    refine V_iload (pc := 35) (i := 5) dX4_firstBell_35 rfl ?_
    obtain ⟨g8, e⟩ := gd_some e
    obtain ⟨g9, e⟩ := gd_some e
    refine V_iald (pc := 37) dX4_firstBell_37 (of_decide_eq_true g8) (ix_in g9) ?_
    refine V_if_lt (pc := 38) (tgt := 67) dX4_firstBell_38 (by decide) (fun c19 => ?_) (fun c19 => ?_)
    · rw [if_pos c19] at e
      exact V_pick [1, 2, 3, 4, 5] rfl (r_X4_firstBell_b67 v0 v1 v2 v3 v4 h e kI kE73 kE59)
    · rw [if_neg c19] at e
      refine V_pick [1, 2, 3, 4, 5, 0] rfl ?_
      refine V_aload_n (pc := 41) (i := 0) dX4_firstBell_41 rfl rfl ?_
      obtain ⟨q10, g11, e⟩ := ob_some e
      refine V_getR (pc := 42) (ci := 4) (k := 0) (b := q10) dX4_firstBell_42 fl_X4_9 rfl (of_decide_eq_true g5) g11 ?_
      refine V_iload (pc := 45) (i := 5) dX4_firstBell_45 rfl ?_
      obtain ⟨g12, e⟩ := gd_some e
      obtain ⟨g13, e⟩ := gd_some e
      refine V_iald (pc := 47) dX4_firstBell_47 (of_decide_eq_true g12) (ix_in g13) ?_
      refine V_aload_n (pc := 48) (i := 0) dX4_firstBell_48 rfl rfl ?_
      obtain ⟨q14, g15, e⟩ := ob_some e
      refine V_getR (pc := 49) (ci := 4) (k := 0) (b := q14) dX4_firstBell_49 fl_X4_9 rfl (of_decide_eq_true g5) g15 ?_
      refine V_iload_n (pc := 52) (i := 1) dX4_firstBell_52 rfl rfl ?_
      obtain ⟨g16, e⟩ := gd_some e
      obtain ⟨g17, e⟩ := gd_some e
      refine V_iald (pc := 53) dX4_firstBell_53 (of_decide_eq_true g16) (ix_in g17) ?_
      refine V_iconst (pc := 54) (v := (1 : Int32)) dX4_firstBell_54 (by decide) ?_
      refine V_isub (pc := 55) dX4_firstBell_55 ?_
      refine V_icmp_ne (pc := 56) (tgt := 67) dX4_firstBell_56 (by decide) (fun c18 => ?_) (fun c18 => ?_)
      · rw [if_neg c18] at e
        exact V_pick [0, 1, 2, 3, 4] rfl (r_X4_firstBell_b67 v0 v1 v2 v3 v4 h e kI kE73 kE59)
      · rw [if_pos c18] at e
        cases e
        exact V_pick [3, 4] rfl (kE59 v4 rfl)
set_option maxRecDepth 100000 in
def F_X4_firstBell_l2 (v0 : Nat) (v1 : Int32) (v2 : Nat) (v3 : Int32) (h : Hp) : Option (Int32 ⊕ (Unit ⊕ (Int32 × Int32))) :=
  gd (decide (kd h v2 = 2)) <| (if (zI h v2 5) ≤ v3 then some (.inr (.inl ())) else ob (iter (fun z : Int32 => F_X4_firstBell_l13 v0 v1 v2 v3 z h) FU (0 : Int32)) (fun z => sm z (fun _ => some (.inl (v3 + (1 : Int32)))) (fun w21 => some (.inr (.inr (v3, w21))))))
set_option maxHeartbeats 4000000 in
set_option maxRecDepth 100000 in
theorem r_X4_firstBell_l2 (v0 : Nat) (v1 : Int32) (v2 : Nat) (v3 : Int32) (h : Hp) {x : Cx} {o : (Int32 ⊕ (Unit ⊕ (Int32 × Int32)))} (e : F_X4_firstBell_l2 v0 v1 v2 v3 h = some o) (kI : ∀ z, o = .inl z → V M_X4_firstBell x 1 2 [(0, .ref v0), (1, .int v1), (2, .ref v2), (3, .int z)] [] h 0 0) (kE79 : ∀ z : Unit, o = .inr (.inl z) → V M_X4_firstBell x 1 79 [] [] h 0 0) (kE59 : ∀ z : Int32 × Int32, o = .inr (.inr z) → V M_X4_firstBell x 1 59 [(3, .int z.1), (4, .int z.2)] [] h 0 0) : V M_X4_firstBell x 1 2 [(0, .ref v0), (1, .int v1), (2, .ref v2), (3, .int v3)] [] h 0 0 := by
  unfold F_X4_firstBell_l2 at e
  refine V_iload_n (pc := 2) (i := 3) dX4_firstBell_2 rfl rfl ?_
  refine V_aload_n (pc := 3) (i := 2) dX4_firstBell_3 rfl rfl ?_
  obtain ⟨g1, e⟩ := gd_some e
  refine V_getI (pc := 4) (ci := 2) (k := 5) dX4_firstBell_4 fl_X4_31 rfl (of_decide_eq_true g1) ?_
  refine V_icmp_ge (pc := 7) (tgt := 79) dX4_firstBell_7 (by decide) (fun c26 => ?_) (fun c26 => ?_)
  · rw [if_pos c26] at e
    cases e
    exact V_pick [] rfl (kE79 () rfl)
  · rw [if_neg c26] at e
    refine V_pick [0, 1, 2, 3] rfl ?_
    refine V_iconst (pc := 10) (v := (0 : Int32)) dX4_firstBell_10 (by decide) ?_
    refine V_istore (pc := 11) (i := 4) (lv' := [(4, .int (0 : Int32)), (0, .ref v0), (1, .int v1), (2, .ref v2), (3, .int v3)]) dX4_firstBell_11 (by decide) rfl ?_
    refine V_pick [1, 2, 3, 4, 0] rfl ?_
    obtain ⟨y22, g23, e⟩ := ob_some e
    refine iter_V (P := fun z : Int32 => V M_X4_firstBell x 1 13 [(0, .ref v0), (1, .int v1), (2, .ref v2), (3, .int v3), (4, .int z)] [] h 0 0) (E := fun z => Sum.elim (fun z : Unit => V M_X4_firstBell x 1 73 [(0, .ref v0), (1, .int v1), (2, .ref v2), (3, .int v3)] [] h 0 0) (fun z : Int32 => V M_X4_firstBell x 1 59 [(3, .int v3), (4, .int z)] [] h 0 0) z) (fun z o e9 k1 k2 => r_X4_firstBell_l13 v0 v1 v2 v3 z h e9 (fun z hz9 => k1 z hz9) (fun z hz9 => k2 _ hz9) (fun z hz9 => k2 _ hz9)) _ _ _ g23 ?_
    clear g23
    rcases y22 with y24 | y25
    · replace e : (some (.inl (v3 + (1 : Int32)))) = some o := e
      show V M_X4_firstBell x 1 73 [(0, .ref v0), (1, .int v1), (2, .ref v2), (3, .int v3)] [] h 0 0
      refine V_iinc (pc := 73) (i := 3) (u := v3 + (1 : Int32)) (lv' := [(3, .int (v3 + (1 : Int32))), (0, .ref v0), (1, .int v1), (2, .ref v2)]) dX4_firstBell_73 rfl rfl (by decide) rfl ?_
      refine V_goto (pc := 76) (tgt := 2) dX4_firstBell_76 (by decide) ?_
      cases e
      exact V_pick [1, 2, 3, 0] rfl (kI (v3 + (1 : Int32)) rfl)
    · obtain ⟨w21, rfl⟩ : ∃ q, q = y25 := ⟨_, rfl⟩
      replace e : (some (.inr (.inr (v3, w21)))) = some o := e
      show V M_X4_firstBell x 1 59 [(3, .int v3), (4, .int w21)] [] h 0 0
      cases e
      exact V_pick [0, 1] rfl (kE59 (v3, w21) rfl)
set_option maxRecDepth 100000 in
def F_X4_firstBell_b0 (v0 : Nat) (v1 : Int32) (v2 : Nat) (h : Hp) : Option Int32 :=
  ob (iter (fun z : Int32 => F_X4_firstBell_l2 v0 v1 v2 z h) FU (0 : Int32)) (fun z => sm z (fun _ => some (-1 : Int32)) (fun z => un2 z fun w27 w28 => some (((8 : Int32) * w27) + w28)))
set_option maxHeartbeats 4000000 in
set_option maxRecDepth 100000 in
theorem r_X4_firstBell_b0 (v0 : Nat) (v1 : Int32) (v2 : Nat) (h : Hp) {x : Cx} {r : Int32} (e : F_X4_firstBell_b0 v0 v1 v2 h = some r) (hF : Fin9 M_X4_firstBell x (some .int) (some (.int r)) h) : V M_X4_firstBell x 1 0 [(0, .ref v0), (1, .int v1), (2, .ref v2)] [] h 0 0 := by
  unfold F_X4_firstBell_b0 at e
  refine V_iconst (pc := 0) (v := (0 : Int32)) dX4_firstBell_0 (by decide) ?_
  refine V_istore_n (pc := 1) (i := 3) (lv' := [(3, .int (0 : Int32)), (0, .ref v0), (1, .int v1), (2, .ref v2)]) dX4_firstBell_1 rfl (by decide) rfl ?_
  refine V_pick [1, 2, 3, 0] rfl ?_
  obtain ⟨y29, g30, e⟩ := ob_some e
  refine iter_V (P := fun z : Int32 => V M_X4_firstBell x 1 2 [(0, .ref v0), (1, .int v1), (2, .ref v2), (3, .int z)] [] h 0 0) (E := fun z => Sum.elim (fun z : Unit => V M_X4_firstBell x 1 79 [] [] h 0 0) (fun z : Int32 × Int32 => V M_X4_firstBell x 1 59 [(3, .int z.1), (4, .int z.2)] [] h 0 0) z) (fun z o e9 k1 k2 => r_X4_firstBell_l2 v0 v1 v2 z h e9 (fun z hz9 => k1 z hz9) (fun z hz9 => k2 _ hz9) (fun z hz9 => k2 _ hz9)) _ _ _ g30 ?_
  clear g30
  rcases y29 with y31 | y32
  · replace e : (some (-1 : Int32)) = some r := e
    show V M_X4_firstBell x 1 79 [] [] h 0 0
    refine V_iconst (pc := 79) (v := (-1 : Int32)) dX4_firstBell_79 (by decide) ?_
    cases e
    exact V_iret (pc := 80) dX4_firstBell_80 hF
  · obtain ⟨w27, w28⟩ := y32
    replace e : (some (((8 : Int32) * w27) + w28)) = some r := e
    show V M_X4_firstBell x 1 59 [(3, .int w27), (4, .int w28)] [] h 0 0
    refine V_bipush (pc := 59) (v := (8 : Int32)) dX4_firstBell_59 (by decide) ?_
    refine V_iload_n (pc := 61) (i := 3) dX4_firstBell_61 rfl rfl ?_
    refine V_imul (pc := 62) dX4_firstBell_62 ?_
    refine V_iload (pc := 63) (i := 4) dX4_firstBell_63 rfl ?_
    refine V_iadd (pc := 65) dX4_firstBell_65 ?_
    cases e
    exact V_iret (pc := 66) dX4_firstBell_66 hF
def F_X4_firstBell (v0 : Nat) (v1 : Int32) (v2 : Nat) (h : Hp) : Option Int32 := F_X4_firstBell_b0 v0 v1 v2 h
theorem c_X4_firstBell {l : Launch} (v0 : Nat) (v1 : Int32) (v2 : Nat) (h : Hp) {r : Int32} (e : F_X4_firstBell v0 v1 v2 h = some r) : Ct l yX4_firstBell M_X4_firstBell (some .int) 1 [.ref v0, .int v1, .ref v2] h 0 0 (some (.int r)) h :=
  Ct_of rfl rfl (fun q => by cases q) (Nat.le_of_ble_eq_true rfl) (fun x _ hF => V_pick [0, 1, 2] rfl (r_X4_firstBell_b0 v0 v1 v2 h e hF))
theorem dX6_lookAtFirst_0 : decode cX6_lookAtFirst 0 = .ok (.aload_n 0, 1) := by decide +kernel
theorem dX6_lookAtFirst_1 : decode cX6_lookAtFirst 1 = .ok (.iconst (-1), 1) := by decide +kernel
theorem dX6_lookAtFirst_2 : decode cX6_lookAtFirst 2 = .ok (.putfield 31, 3) := by decide +kernel
theorem dX6_lookAtFirst_5 : decode cX6_lookAtFirst 5 = .ok (.aload_n 0, 1) := by decide +kernel
theorem dX6_lookAtFirst_6 : decode cX6_lookAtFirst 6 = .ok (.iconst 0, 1) := by decide +kernel
theorem dX6_lookAtFirst_7 : decode cX6_lookAtFirst 7 = .ok (.putfield 25, 3) := by decide +kernel
theorem dX6_lookAtFirst_10 : decode cX6_lookAtFirst 10 = .ok (.aload_n 0, 1) := by decide +kernel
theorem dX6_lookAtFirst_11 : decode cX6_lookAtFirst 11 = .ok (.invokevirtual 34, 3) := by decide +kernel
theorem dX6_lookAtFirst_14 : decode cX6_lookAtFirst 14 = .ok (.return_, 1) := by decide +kernel
set_option maxRecDepth 100000 in
def F_X6_lookAtFirst_b0 (v0 : Nat) (h : Hp) : Option (Unit × Hp) :=
  gd (decide (kd h v0 = 6)) <| ob2 (F_X6_lookAtNext v0 (setI (setI h v0 6 (-1 : Int32)) v0 4 (0 : Int32))) fun _ h4 => some ((), h4)
set_option maxHeartbeats 4000000 in
set_option maxRecDepth 100000 in
theorem r_X6_lookAtFirst_b0 (v0 : Nat) (h : Hp) {x : Cx} {r : Unit} {hz : Hp} (e : F_X6_lookAtFirst_b0 v0 h = some (r, hz)) (hF : Fin9 M_X6_lookAtFirst x none none hz) : V M_X6_lookAtFirst x 2 0 [(0, .ref v0)] [] h 0 0 := by
  unfold F_X6_lookAtFirst_b0 at e
  refine V_aload_n (pc := 0) (i := 0) dX6_lookAtFirst_0 rfl rfl ?_
  refine V_iconst (pc := 1) (v := (-1 : Int32)) dX6_lookAtFirst_1 (by decide) ?_
  obtain ⟨g1, e⟩ := gd_some e
  refine V_putI (pc := 2) (ci := 6) (k := 6) dX6_lookAtFirst_2 fp_X6_31 rfl (of_decide_eq_true g1) ?_
  refine V_aload_n (pc := 5) (i := 0) dX6_lookAtFirst_5 rfl rfl ?_
  refine V_iconst (pc := 6) (v := (0 : Int32)) dX6_lookAtFirst_6 (by decide) ?_
  refine V_putI (pc := 7) (ci := 6) (k := 4) dX6_lookAtFirst_7 fp_X6_25 rfl (kd_sI (of_decide_eq_true g1)) ?_
  refine V_aload_n (pc := 10) (i := 0) dX6_lookAtFirst_10 rfl rfl ?_
  obtain ⟨r3, h4, g2, e⟩ := ob2_some e
  refine V_callV (pc := 11) (bc := 0) (bs := 0) (mc := 0) (ms := 0) (st := []) (As := []) (a := v0) (h' := h4) (r := none) dX6_lookAtFirst_11 ml_X6_34 (ci := 6) rfl (kd_sI (kd_sI (of_decide_eq_true g1))) rfl rfl (Nat.le_of_ble_eq_true rfl) (d' := 1) (by decide) (c_X6_lookAtNext (l := x.2.1) v0 (setI (setI h v0 6 (-1 : Int32)) v0 4 (0 : Int32)) g2) ?_
  cases e
  exact V_vret (pc := 14) dX6_lookAtFirst_14 hF
def F_X6_lookAtFirst (v0 : Nat) (h : Hp) : Option (Unit × Hp) := F_X6_lookAtFirst_b0 v0 h
theorem c_X6_lookAtFirst {l : Launch} (v0 : Nat) (h : Hp) {r : Unit} {hz : Hp} (e : F_X6_lookAtFirst v0 h = some (r, hz)) : Ct l yX6_lookAtFirst M_X6_lookAtFirst none 2 [.ref v0] h 0 0 none hz :=
  Ct_of rfl rfl (fun q => by cases q) (Nat.le_of_ble_eq_true rfl) (fun x _ hF => V_pick [0] rfl (r_X6_lookAtFirst_b0 v0 h e hF))
theorem dX8_slideAll_0 : decode cX8_slideAll 0 = .ok (.iconst 0, 1) := by decide +kernel
theorem dX8_slideAll_1 : decode cX8_slideAll 1 = .ok (.istore 5, 2) := by decide +kernel
theorem dX8_slideAll_3 : decode cX8_slideAll 3 = .ok (.iconst 0, 1) := by decide +kernel
theorem dX8_slideAll_4 : decode cX8_slideAll 4 = .ok (.istore 6, 2) := by decide +kernel
theorem dX8_slideAll_6 : decode cX8_slideAll 6 = .ok (.iload 6, 2) := by decide +kernel
theorem dX8_slideAll_8 : decode cX8_slideAll 8 = .ok (.aload_n 0, 1) := by decide +kernel
theorem dX8_slideAll_9 : decode cX8_slideAll 9 = .ok (.getfield 9, 3) := by decide +kernel
theorem dX8_slideAll_12 : decode cX8_slideAll 12 = .ok (.if_icmp .ge 44, 3) := by decide +kernel
theorem dX8_slideAll_15 : decode cX8_slideAll 15 = .ok (.aload_n 0, 1) := by decide +kernel
theorem dX8_slideAll_16 : decode cX8_slideAll 16 = .ok (.getfield 22, 3) := by decide +kernel
theorem dX8_slideAll_19 : decode cX8_slideAll 19 = .ok (.iload 6, 2) := by decide +kernel
theorem dX8_slideAll_21 : decode cX8_slideAll 21 = .ok (.iaload, 1) := by decide +kernel
theorem dX8_slideAll_22 : decode cX8_slideAll 22 = .ok (.aload_n 1, 1) := by decide +kernel
theorem dX8_slideAll_23 : decode cX8_slideAll 23 = .ok (.aload_n 2, 1) := by decide +kernel
theorem dX8_slideAll_24 : decode cX8_slideAll 24 = .ok (.iload_n 3, 1) := by decide +kernel
theorem dX8_slideAll_25 : decode cX8_slideAll 25 = .ok (.iload 4, 2) := by decide +kernel
theorem dX8_slideAll_27 : decode cX8_slideAll 27 = .ok (.invokestatic 31, 3) := by decide +kernel
theorem dX8_slideAll_30 : decode cX8_slideAll 30 = .ok (.istore 7, 2) := by decide +kernel
theorem dX8_slideAll_32 : decode cX8_slideAll 32 = .ok (.iload 7, 2) := by decide +kernel
theorem dX8_slideAll_34 : decode cX8_slideAll 34 = .ok (.iconst (-1), 1) := by decide +kernel
theorem dX8_slideAll_35 : decode cX8_slideAll 35 = .ok (.if_icmp .eq 15, 3) := by decide +kernel
theorem dX8_slideAll_38 : decode cX8_slideAll 38 = .ok (.aload_n 0, 1) := by decide +kernel
theorem dX8_slideAll_39 : decode cX8_slideAll 39 = .ok (.getfield 22, 3) := by decide +kernel
theorem dX8_slideAll_42 : decode cX8_slideAll 42 = .ok (.iload 6, 2) := by decide +kernel
theorem dX8_slideAll_44 : decode cX8_slideAll 44 = .ok (.iload 7, 2) := by decide +kernel
theorem dX8_slideAll_46 : decode cX8_slideAll 46 = .ok (.iastore, 1) := by decide +kernel
theorem dX8_slideAll_47 : decode cX8_slideAll 47 = .ok (.iinc 5 1, 3) := by decide +kernel
theorem dX8_slideAll_50 : decode cX8_slideAll 50 = .ok (.iinc 6 1, 3) := by decide +kernel
theorem dX8_slideAll_53 : decode cX8_slideAll 53 = .ok (.goto (-47), 3) := by decide +kernel
theorem dX8_slideAll_56 : decode cX8_slideAll 56 = .ok (.iload 5, 2) := by decide +kernel
theorem dX8_slideAll_58 : decode cX8_slideAll 58 = .ok (.ireturn, 1) := by decide +kernel
set_option maxRecDepth 100000 in
def F_X8_slideAll_b50 (v0 : Nat) (v1 : Nat) (v2 : Nat) (v3 : Int32) (v4 : Int32) (v5 : Int32) (v6 : Int32) (h : Hp) : Option ((Int32 × Int32 × Hp) ⊕ (Int32 × Hp)) :=
  some (.inl (v5, v6 + (1 : Int32), h))
set_option maxHeartbeats 4000000 in
set_option maxRecDepth 100000 in
theorem r_X8_slideAll_b50 (v0 : Nat) (v1 : Nat) (v2 : Nat) (v3 : Int32) (v4 : Int32) (v5 : Int32) (v6 : Int32) (h : Hp) {x : Cx} {o : ((Int32 × Int32 × Hp) ⊕ (Int32 × Hp))} (e : F_X8_slideAll_b50 v0 v1 v2 v3 v4 v5 v6 h = some o) (kI : ∀ z, o = .inl z → V M_X8_slideAll x 1 6 [(0, .ref v0), (1, .ref v1), (2, .ref v2), (3, .int v3), (4, .int v4), (5, .int z.1), (6, .int z.2.1)] [] z.2.2 0 0) (kE56 : ∀ z : Int32 × Hp, o = .inr z → V M_X8_slideAll x 1 56 [(5, .int z.1)] [] z.2 0 0) : V M_X8_slideAll x 1 50 [(0, .ref v0), (1, .ref v1), (2, .ref v2), (3, .int v3), (4, .int v4), (5, .int v5), (6, .int v6)] [] h 0 0 := by
  unfold F_X8_slideAll_b50 at e
  refine V_iinc (pc := 50) (i := 6) (u := v6 + (1 : Int32)) (lv' := [(6, .int (v6 + (1 : Int32))), (0, .ref v0), (1, .ref v1), (2, .ref v2), (3, .int v3), (4, .int v4), (5, .int v5)]) dX8_slideAll_50 rfl rfl (by decide) rfl ?_
  refine V_goto (pc := 53) (tgt := 6) dX8_slideAll_53 (by decide) ?_
  cases e
  exact V_pick [1, 2, 3, 4, 5, 6, 0] rfl (kI (v5, v6 + (1 : Int32), h) rfl)
set_option maxRecDepth 100000 in
def F_X8_slideAll_l6 (v0 : Nat) (v1 : Nat) (v2 : Nat) (v3 : Int32) (v4 : Int32) (v5 : Int32) (v6 : Int32) (h : Hp) : Option ((Int32 × Int32 × Hp) ⊕ (Int32 × Hp)) :=
  gd (decide (kd h v0 = 7)) <| (if (zI h v0 0) ≤ v6 then some (.inr (v5, h)) else ob (zR h v0 3) fun q2 => gd (decide (kd h q2 = 13)) <| gd (ix v6 (zl h q2)) <| ob (F_X8_nextRoom (zI h q2 (v6).toNatClampNeg) v1 v2 v3 v4 h) fun r7 => (if r7 = (-1 : Int32) then F_X8_slideAll_b50 v0 v1 v2 v3 v4 v5 v6 h else ob (zR h v0 3) fun q8 => gd (decide (kd h q8 = 13)) <| gd (ix v6 (zl h q8)) <| F_X8_slideAll_b50 v0 v1 v2 v3 v4 (v5 + (1 : Int32)) v6 (setI h q8 (v6).toNatClampNeg r7)))
set_option maxHeartbeats 4000000 in
set_option maxRecDepth 100000 in
theorem r_X8_slideAll_l6 (v0 : Nat) (v1 : Nat) (v2 : Nat) (v3 : Int32) (v4 : Int32) (v5 : Int32) (v6 : Int32) (h : Hp) {x : Cx} {o : ((Int32 × Int32 × Hp) ⊕ (Int32 × Hp))} (e : F_X8_slideAll_l6 v0 v1 v2 v3 v4 v5 v6 h = some o) (kI : ∀ z, o = .inl z → V M_X8_slideAll x 1 6 [(0, .ref v0), (1, .ref v1), (2, .ref v2), (3, .int v3), (4, .int v4), (5, .int z.1), (6, .int z.2.1)] [] z.2.2 0 0) (kE56 : ∀ z : Int32 × Hp, o = .inr z → V M_X8_slideAll x 1 56 [(5, .int z.1)] [] z.2 0 0) : V M_X8_slideAll x 1 6 [(0, .ref v0), (1, .ref v1), (2, .ref v2), (3, .int v3), (4, .int v4), (5, .int v5), (6, .int v6)] [] h 0 0 := by
  unfold F_X8_slideAll_l6 at e
  refine V_iload (pc := 6) (i := 6) dX8_slideAll_6 rfl ?_
  refine V_aload_n (pc := 8) (i := 0) dX8_slideAll_8 rfl rfl ?_
  obtain ⟨g1, e⟩ := gd_some e
  refine V_getI (pc := 9) (ci := 7) (k := 0) dX8_slideAll_9 fl_X8_9 rfl (of_decide_eq_true g1) ?_
  refine V_icmp_ge (pc := 12) (tgt := 56) dX8_slideAll_12 (by decide) (fun c13 => ?_) (fun c13 => ?_)
  · rw [if_pos c13] at e
    cases e
    exact V_pick [5] rfl (kE56 (v5, h) rfl)
  · rw [if_neg c13] at e
    refine V_pick [0, 1, 2, 3, 4, 5, 6] rfl ?_
    refine V_aload_n (pc := 15) (i := 0) dX8_slideAll_15 rfl rfl ?_
    obtain ⟨q2, g3, e⟩ := ob_some e
    refine V_getR (pc := 16) (ci := 7) (k := 3) (b := q2) dX8_slideAll_16 fl_X8_22 rfl (of_decide_eq_true g1) g3 ?_
    refine V_iload (pc := 19) (i := 6) dX8_slideAll_19 rfl ?_
    obtain ⟨g4, e⟩ := gd_some e
    obtain ⟨g5, e⟩ := gd_some e
    refine V_iald (pc := 21) dX8_slideAll_21 (of_decide_eq_true g4) (ix_in g5) ?_
    refine V_aload_n (pc := 22) (i := 1) dX8_slideAll_22 rfl rfl ?_
    refine V_aload_n (pc := 23) (i := 2) dX8_slideAll_23 rfl rfl ?_
    refine V_iload_n (pc := 24) (i := 3) dX8_slideAll_24 rfl rfl ?_
    refine V_iload (pc := 25) (i := 4) dX8_slideAll_25 rfl ?_
    obtain ⟨r7, g6, e⟩ := ob_some e
    refine V_callS (pc := 27) (bc := 0) (bs := 0) (mc := 0) (ms := 0) (st := []) (As := [.int (zI h q2 (v6).toNatClampNeg), .ref v1, .ref v2, .int v3, .int v4]) (h' := h) (r := some (.int r7)) dX8_slideAll_27 ml_X8_31 rfl rfl (Nat.le_of_ble_eq_true rfl) (d' := 0) (by decide) (c_X8_nextRoom (l := x.2.1) (zI h q2 (v6).toNatClampNeg) v1 v2 v3 v4 h g6) ?_
    refine V_istore (pc := 30) (i := 7) (lv' := [(7, .int r7), (0, .ref v0), (1, .ref v1), (2, .ref v2), (3, .int v3), (4, .int v4), (5, .int v5), (6, .int v6)]) dX8_slideAll_30 (by decide) rfl ?_
    refine V_iload (pc := 32) (i := 7) dX8_slideAll_32 rfl ?_
    refine V_iconst (pc := 34) (v := (-1 : Int32)) dX8_slideAll_34 (by decide) ?_
    refine V_icmp_eq (pc := 35) (tgt := 50) dX8_slideAll_35 (by decide) (fun c12 => ?_) (fun c12 => ?_)
    · rw [if_pos c12] at e
      exact V_pick [1, 2, 3, 4, 5, 6, 7] rfl (r_X8_slideAll_b50 v0 v1 v2 v3 v4 v5 v6 h e kI kE56)
    · rw [if_neg c12] at e
      refine V_pick [1, 2, 3, 4, 5, 6, 7, 0] rfl ?_
      refine V_aload_n (pc := 38) (i := 0) dX8_slideAll_38 rfl rfl ?_
      obtain ⟨q8, g9, e⟩ := ob_some e
      refine V_getR (pc := 39) (ci := 7) (k := 3) (b := q8) dX8_slideAll_39 fl_X8_22 rfl (of_decide_eq_true g1) g9 ?_
      refine V_iload (pc := 42) (i := 6) dX8_slideAll_42 rfl ?_
      refine V_iload (pc := 44) (i := 7) dX8_slideAll_44 rfl ?_
      obtain ⟨g10, e⟩ := gd_some e
      obtain ⟨g11, e⟩ := gd_some e
      refine V_iast (pc := 46) dX8_slideAll_46 (of_decide_eq_true g10) (ix_in g11) ?_
      refine V_iinc (pc := 47) (i := 5) (u := v5 + (1 : Int32)) (lv' := [(5, .int (v5 + (1 : Int32))), (0, .ref v0), (1, .ref v1), (2, .ref v2), (3, .int v3), (4, .int v4), (6, .int v6), (7, .int r7)]) dX8_slideAll_47 rfl rfl (by decide) rfl ?_
      exact V_pick [1, 2, 3, 4, 5, 0, 6] rfl (r_X8_slideAll_b50 v0 v1 v2 v3 v4 (v5 + (1 : Int32)) v6 (setI h q8 (v6).toNatClampNeg r7) e kI kE56)
set_option maxRecDepth 100000 in
def F_X8_slideAll_b0 (v0 : Nat) (v1 : Nat) (v2 : Nat) (v3 : Int32) (v4 : Int32) (h : Hp) : Option (Int32 × Hp) :=
  ob (iter (fun z : Int32 × Int32 × Hp => F_X8_slideAll_l6 v0 v1 v2 v3 v4 z.1 z.2.1 z.2.2) FU ((0 : Int32), (0 : Int32), h)) (fun z => un2 z fun w14 h15 => some (w14, h15))
set_option maxHeartbeats 4000000 in
set_option maxRecDepth 100000 in
theorem r_X8_slideAll_b0 (v0 : Nat) (v1 : Nat) (v2 : Nat) (v3 : Int32) (v4 : Int32) (h : Hp) {x : Cx} {r : Int32} {hz : Hp} (e : F_X8_slideAll_b0 v0 v1 v2 v3 v4 h = some (r, hz)) (hF : Fin9 M_X8_slideAll x (some .int) (some (.int r)) hz) : V M_X8_slideAll x 1 0 [(0, .ref v0), (1, .ref v1), (2, .ref v2), (3, .int v3), (4, .int v4)] [] h 0 0 := by
  unfold F_X8_slideAll_b0 at e
  refine V_iconst (pc := 0) (v := (0 : Int32)) dX8_slideAll_0 (by decide) ?_
  refine V_istore (pc := 1) (i := 5) (lv' := [(5, .int (0 : Int32)), (0, .ref v0), (1, .ref v1), (2, .ref v2), (3, .int v3), (4, .int v4)]) dX8_slideAll_1 (by decide) rfl ?_
  refine V_iconst (pc := 3) (v := (0 : Int32)) dX8_slideAll_3 (by decide) ?_
  refine V_istore (pc := 4) (i := 6) (lv' := [(6, .int (0 : Int32)), (5, .int (0 : Int32)), (0, .ref v0), (1, .ref v1), (2, .ref v2), (3, .int v3), (4, .int v4)]) dX8_slideAll_4 (by decide) rfl ?_
  refine V_pick [2, 3, 4, 5, 6, 1, 0] rfl ?_
  obtain ⟨y16, g17, e⟩ := ob_some e
  refine iter_V (P := fun z : Int32 × Int32 × Hp => V M_X8_slideAll x 1 6 [(0, .ref v0), (1, .ref v1), (2, .ref v2), (3, .int v3), (4, .int v4), (5, .int z.1), (6, .int z.2.1)] [] z.2.2 0 0) (E := fun z : Int32 × Hp => V M_X8_slideAll x 1 56 [(5, .int z.1)] [] z.2 0 0) (fun z o e9 k1 k2 => r_X8_slideAll_l6 v0 v1 v2 v3 v4 z.1 z.2.1 z.2.2 e9 (fun z hz9 => k1 z hz9) (fun z hz9 => k2 _ hz9)) _ _ _ g17 ?_
  clear g17
  obtain ⟨w14, h15⟩ := y16
  replace e : (some (w14, h15)) = some (r, hz) := e
  show V M_X8_slideAll x 1 56 [(5, .int w14)] [] h15 0 0
  refine V_iload (pc := 56) (i := 5) dX8_slideAll_56 rfl ?_
  cases e
  exact V_iret (pc := 58) dX8_slideAll_58 hF
def F_X8_slideAll (v0 : Nat) (v1 : Nat) (v2 : Nat) (v3 : Int32) (v4 : Int32) (h : Hp) : Option (Int32 × Hp) := F_X8_slideAll_b0 v0 v1 v2 v3 v4 h
theorem c_X8_slideAll {l : Launch} (v0 : Nat) (v1 : Nat) (v2 : Nat) (v3 : Int32) (v4 : Int32) (h : Hp) {r : Int32} {hz : Hp} (e : F_X8_slideAll v0 v1 v2 v3 v4 h = some (r, hz)) : Ct l yX8_slideAll M_X8_slideAll (some .int) 1 [.ref v0, .ref v1, .ref v2, .int v3, .int v4] h 0 0 (some (.int r)) hz :=
  Ct_of rfl rfl (fun q => by cases q) (Nat.le_of_ble_eq_true rfl) (fun x _ hF => V_pick [0, 1, 2, 3, 4] rfl (r_X8_slideAll_b0 v0 v1 v2 v3 v4 h e hF))
theorem dX9_advance_0 : decode cX9_advance 0 = .ok (.aload_n 0, 1) := by decide +kernel
theorem dX9_advance_1 : decode cX9_advance 1 = .ok (.getfield 18, 3) := by decide +kernel
theorem dX9_advance_4 : decode cX9_advance 4 = .ok (.ifCond .eq 7, 3) := by decide +kernel
theorem dX9_advance_7 : decode cX9_advance 7 = .ok (.iconst 0, 1) := by decide +kernel
theorem dX9_advance_8 : decode cX9_advance 8 = .ok (.goto 9, 3) := by decide +kernel
theorem dX9_advance_11 : decode cX9_advance 11 = .ok (.aload_n 1, 1) := by decide +kernel
theorem dX9_advance_12 : decode cX9_advance 12 = .ok (.getfield 70, 3) := by decide +kernel
theorem dX9_advance_15 : decode cX9_advance 15 = .ok (.iconst 1, 1) := by decide +kernel
theorem dX9_advance_16 : decode cX9_advance 16 = .ok (.isub, 1) := by decide +kernel
theorem dX9_advance_17 : decode cX9_advance 17 = .ok (.istore_n 2, 1) := by decide +kernel
theorem dX9_advance_18 : decode cX9_advance 18 = .ok (.aload_n 0, 1) := by decide +kernel
theorem dX9_advance_19 : decode cX9_advance 19 = .ok (.iconst 0, 1) := by decide +kernel
theorem dX9_advance_20 : decode cX9_advance 20 = .ok (.putfield 18, 3) := by decide +kernel
theorem dX9_advance_23 : decode cX9_advance 23 = .ok (.iconst 0, 1) := by decide +kernel
theorem dX9_advance_24 : decode cX9_advance 24 = .ok (.istore_n 3, 1) := by decide +kernel
theorem dX9_advance_25 : decode cX9_advance 25 = .ok (.iload_n 3, 1) := by decide +kernel
theorem dX9_advance_26 : decode cX9_advance 26 = .ok (.ldc 73, 2) := by decide +kernel
theorem dX9_advance_28 : decode cX9_advance 28 = .ok (.if_icmp .ge 38, 3) := by decide +kernel
theorem dX9_advance_31 : decode cX9_advance 31 = .ok (.iload_n 2, 1) := by decide +kernel
theorem dX9_advance_32 : decode cX9_advance 32 = .ok (.ifCond .lt 34, 3) := by decide +kernel
theorem dX9_advance_35 : decode cX9_advance 35 = .ok (.iload_n 2, 1) := by decide +kernel
theorem dX9_advance_36 : decode cX9_advance 36 = .ok (.aload_n 1, 1) := by decide +kernel
theorem dX9_advance_37 : decode cX9_advance 37 = .ok (.getfield 70, 3) := by decide +kernel
theorem dX9_advance_40 : decode cX9_advance 40 = .ok (.if_icmp .ge 26, 3) := by decide +kernel
theorem dX9_advance_43 : decode cX9_advance 43 = .ok (.iload_n 2, 1) := by decide +kernel
theorem dX9_advance_44 : decode cX9_advance 44 = .ok (.aload_n 0, 1) := by decide +kernel
theorem dX9_advance_45 : decode cX9_advance 45 = .ok (.iload_n 2, 1) := by decide +kernel
theorem dX9_advance_46 : decode cX9_advance 46 = .ok (.aload_n 1, 1) := by decide +kernel
theorem dX9_advance_47 : decode cX9_advance 47 = .ok (.invokevirtual 74, 3) := by decide +kernel
theorem dX9_advance_50 : decode cX9_advance 50 = .ok (.ifCond .eq 7, 3) := by decide +kernel
theorem dX9_advance_53 : decode cX9_advance 53 = .ok (.iconst 1, 1) := by decide +kernel
theorem dX9_advance_54 : decode cX9_advance 54 = .ok (.goto 4, 3) := by decide +kernel
theorem dX9_advance_57 : decode cX9_advance 57 = .ok (.iconst (-1), 1) := by decide +kernel
theorem dX9_advance_58 : decode cX9_advance 58 = .ok (.iadd, 1) := by decide +kernel
theorem dX9_advance_59 : decode cX9_advance 59 = .ok (.istore_n 2, 1) := by decide +kernel
theorem dX9_advance_60 : decode cX9_advance 60 = .ok (.iinc 3 1, 3) := by decide +kernel
theorem dX9_advance_63 : decode cX9_advance 63 = .ok (.goto (-38), 3) := by decide +kernel
theorem dX9_advance_66 : decode cX9_advance 66 = .ok (.iload_n 2, 1) := by decide +kernel
theorem dX9_advance_67 : decode cX9_advance 67 = .ok (.aload_n 1, 1) := by decide +kernel
theorem dX9_advance_68 : decode cX9_advance 68 = .ok (.getfield 70, 3) := by decide +kernel
theorem dX9_advance_71 : decode cX9_advance 71 = .ok (.if_icmp .lt 7, 3) := by decide +kernel
theorem dX9_advance_74 : decode cX9_advance 74 = .ok (.iconst 1, 1) := by decide +kernel
theorem dX9_advance_75 : decode cX9_advance 75 = .ok (.goto 4, 3) := by decide +kernel
theorem dX9_advance_78 : decode cX9_advance 78 = .ok (.iconst 0, 1) := by decide +kernel
theorem dX9_advance_79 : decode cX9_advance 79 = .ok (.ireturn, 1) := by decide +kernel
set_option maxRecDepth 100000 in
def F_X9_advance_b58 (v0 : Nat) (v1 : Nat) (v3 : Int32) (t0 : Int32) (t1 : Int32) (h : Hp) : Option ((Int32 × Int32 × Hp) ⊕ (Int32 × Hp)) :=
  some (.inl (t0 + t1, v3 + (1 : Int32), h))
set_option maxHeartbeats 4000000 in
set_option maxRecDepth 100000 in
theorem r_X9_advance_b58 (v0 : Nat) (v1 : Nat) (v3 : Int32) (t0 : Int32) (t1 : Int32) (h : Hp) {x : Cx} {o : ((Int32 × Int32 × Hp) ⊕ (Int32 × Hp))} (e : F_X9_advance_b58 v0 v1 v3 t0 t1 h = some o) (kI : ∀ z, o = .inl z → V M_X9_advance x 1 25 [(0, .ref v0), (1, .ref v1), (2, .int z.1), (3, .int z.2.1)] [] z.2.2 0 0) (kE66 : ∀ z : Int32 × Hp, o = .inr z → V M_X9_advance x 1 66 [(1, .ref v1), (2, .int z.1)] [] z.2 0 0) : V M_X9_advance x 1 58 [(0, .ref v0), (1, .ref v1), (3, .int v3)] [.int t1, .int t0] h 0 0 := by
  unfold F_X9_advance_b58 at e
  refine V_iadd (pc := 58) dX9_advance_58 ?_
  refine V_istore_n (pc := 59) (i := 2) (lv' := [(2, .int (t0 + t1)), (0, .ref v0), (1, .ref v1), (3, .int v3)]) dX9_advance_59 rfl (by decide) rfl ?_
  refine V_iinc (pc := 60) (i := 3) (u := v3 + (1 : Int32)) (lv' := [(3, .int (v3 + (1 : Int32))), (2, .int (t0 + t1)), (0, .ref v0), (1, .ref v1)]) dX9_advance_60 rfl rfl (by decide) rfl ?_
  refine V_goto (pc := 63) (tgt := 25) dX9_advance_63 (by decide) ?_
  cases e
  exact V_pick [2, 3, 1, 0] rfl (kI (t0 + t1, v3 + (1 : Int32), h) rfl)
set_option maxRecDepth 100000 in
def F_X9_advance_l25 (v0 : Nat) (v1 : Nat) (v2 : Int32) (v3 : Int32) (h : Hp) : Option ((Int32 × Int32 × Hp) ⊕ (Int32 × Hp)) :=
  (if (1000000 : Int32) ≤ v3 then some (.inr (v2, h)) else (if v2 < 0 then some (.inr (v2, h)) else gd (decide (kd h v1 = 2)) <| (if (zI h v1 5) ≤ v2 then some (.inr (v2, h)) else ob2 (F_X9_seatFurther v0 v2 v1 h) fun r6 h7 => gd (decide (kd h v0 = 8)) <| (if r6 = 0 then F_X9_advance_b58 v0 v1 v3 v2 (-1 : Int32) h7 else F_X9_advance_b58 v0 v1 v3 v2 (1 : Int32) h7))))
set_option maxHeartbeats 4000000 in
set_option maxRecDepth 100000 in
theorem r_X9_advance_l25 (v0 : Nat) (v1 : Nat) (v2 : Int32) (v3 : Int32) (h : Hp) {x : Cx} {o : ((Int32 × Int32 × Hp) ⊕ (Int32 × Hp))} (e : F_X9_advance_l25 v0 v1 v2 v3 h = some o) (kI : ∀ z, o = .inl z → V M_X9_advance x 1 25 [(0, .ref v0), (1, .ref v1), (2, .int z.1), (3, .int z.2.1)] [] z.2.2 0 0) (kE66 : ∀ z : Int32 × Hp, o = .inr z → V M_X9_advance x 1 66 [(1, .ref v1), (2, .int z.1)] [] z.2 0 0) : V M_X9_advance x 1 25 [(0, .ref v0), (1, .ref v1), (2, .int v2), (3, .int v3)] [] h 0 0 := by
  unfold F_X9_advance_l25 at e
  refine V_iload_n (pc := 25) (i := 3) dX9_advance_25 rfl rfl ?_
  refine V_ldc (pc := 26) (v := (1000000 : Int32)) dX9_advance_26 (wk_X9_73) ?_
  refine V_icmp_ge (pc := 28) (tgt := 66) dX9_advance_28 (by decide) (fun c12 => ?_) (fun c12 => ?_)
  · rw [if_pos c12] at e
    cases e
    exact V_pick [1, 2] rfl (kE66 (v2, h) rfl)
  · rw [if_neg c12] at e
    refine V_pick [0, 1, 2, 3] rfl ?_
    refine V_iload_n (pc := 31) (i := 2) dX9_advance_31 rfl rfl ?_
    refine V_if_lt (pc := 32) (tgt := 66) dX9_advance_32 (by decide) (fun c11 => ?_) (fun c11 => ?_)
    · rw [if_pos c11] at e
      cases e
      exact V_pick [1, 2] rfl (kE66 (v2, h) rfl)
    · rw [if_neg c11] at e
      refine V_pick [0, 1, 2, 3] rfl ?_
      refine V_iload_n (pc := 35) (i := 2) dX9_advance_35 rfl rfl ?_
      refine V_aload_n (pc := 36) (i := 1) dX9_advance_36 rfl rfl ?_
      obtain ⟨g4, e⟩ := gd_some e
      refine V_getI (pc := 37) (ci := 2) (k := 5) dX9_advance_37 fl_X9_70 rfl (of_decide_eq_true g4) ?_
      refine V_icmp_ge (pc := 40) (tgt := 66) dX9_advance_40 (by decide) (fun c10 => ?_) (fun c10 => ?_)
      · rw [if_pos c10] at e
        cases e
        exact V_pick [1, 2] rfl (kE66 (v2, h) rfl)
      · rw [if_neg c10] at e
        refine V_pick [0, 1, 2, 3] rfl ?_
        refine V_iload_n (pc := 43) (i := 2) dX9_advance_43 rfl rfl ?_
        refine V_aload_n (pc := 44) (i := 0) dX9_advance_44 rfl rfl ?_
        refine V_iload_n (pc := 45) (i := 2) dX9_advance_45 rfl rfl ?_
        refine V_aload_n (pc := 46) (i := 1) dX9_advance_46 rfl rfl ?_
        obtain ⟨r6, h7, g5, e⟩ := ob2_some e
        obtain ⟨g8, e⟩ := gd_some e
        refine V_callV (pc := 47) (bc := 0) (bs := 0) (mc := 0) (ms := 0) (st := [.int v2]) (As := [.int v2, .ref v1]) (a := v0) (h' := h7) (r := some (.int r6)) dX9_advance_47 ml_X9_74 (ci := 8) rfl (of_decide_eq_true g8) rfl rfl (Nat.le_of_ble_eq_true rfl) (d' := 0) (by decide) (c_X9_seatFurther (l := x.2.1) v0 v2 v1 h g5) ?_
        refine V_if_eq (pc := 50) (tgt := 57) dX9_advance_50 (by decide) (fun c9 => ?_) (fun c9 => ?_)
        · rw [if_pos c9] at e
          refine V_pick [0, 1, 3] rfl ?_
          refine V_iconst (pc := 57) (v := (-1 : Int32)) dX9_advance_57 (by decide) ?_
          exact V_pick [0, 1, 2] rfl (r_X9_advance_b58 v0 v1 v3 v2 (-1 : Int32) h7 e kI kE66)
        · rw [if_neg c9] at e
          refine V_pick [0, 1, 3] rfl ?_
          refine V_iconst (pc := 53) (v := (1 : Int32)) dX9_advance_53 (by decide) ?_
          refine V_goto (pc := 54) (tgt := 58) dX9_advance_54 (by decide) ?_
          exact V_pick [0, 1, 2] rfl (r_X9_advance_b58 v0 v1 v3 v2 (1 : Int32) h7 e kI kE66)
set_option maxRecDepth 100000 in
def F_X9_advance_b79 (t0 : Int32) (h : Hp) : Option (Int32 × Hp) :=
  gd (decide (t0 = 0 ∨ t0 = 1)) <| some (t0, h)
set_option maxHeartbeats 4000000 in
set_option maxRecDepth 100000 in
theorem r_X9_advance_b79 (t0 : Int32) (h : Hp) {x : Cx} {r : Int32} {hz : Hp} (e : F_X9_advance_b79 t0 h = some (r, hz)) (hF : Fin9 M_X9_advance x (some .boolean) (some (.int r)) hz) : V M_X9_advance x 1 79 [] [.int t0] h 0 0 := by
  unfold F_X9_advance_b79 at e
  obtain ⟨g16, e⟩ := gd_some e
  cases e
  exact V_zret (pc := 79) dX9_advance_79 (z01 (of_decide_eq_true g16)) hF
set_option maxRecDepth 100000 in
def F_X9_advance_b66 (v1 : Nat) (v2 : Int32) (h : Hp) : Option (Int32 × Hp) :=
  gd (decide (kd h v1 = 2)) <| (if v2 < (zI h v1 5) then F_X9_advance_b79 (0 : Int32) h else F_X9_advance_b79 (1 : Int32) h)
set_option maxHeartbeats 4000000 in
set_option maxRecDepth 100000 in
theorem r_X9_advance_b66 (v1 : Nat) (v2 : Int32) (h : Hp) {x : Cx} {r : Int32} {hz : Hp} (e : F_X9_advance_b66 v1 v2 h = some (r, hz)) (hF : Fin9 M_X9_advance x (some .boolean) (some (.int r)) hz) : V M_X9_advance x 1 66 [(1, .ref v1), (2, .int v2)] [] h 0 0 := by
  unfold F_X9_advance_b66 at e
  refine V_iload_n (pc := 66) (i := 2) dX9_advance_66 rfl rfl ?_
  refine V_aload_n (pc := 67) (i := 1) dX9_advance_67 rfl rfl ?_
  obtain ⟨g15, e⟩ := gd_some e
  refine V_getI (pc := 68) (ci := 2) (k := 5) dX9_advance_68 fl_X9_70 rfl (of_decide_eq_true g15) ?_
  refine V_icmp_lt (pc := 71) (tgt := 78) dX9_advance_71 (by decide) (fun c17 => ?_) (fun c17 => ?_)
  · rw [if_pos c17] at e
    refine V_pick [] rfl ?_
    refine V_iconst (pc := 78) (v := (0 : Int32)) dX9_advance_78 (by decide) ?_
    exact V_pick [] rfl (r_X9_advance_b79 (0 : Int32) h e hF)
  · rw [if_neg c17] at e
    refine V_pick [] rfl ?_
    refine V_iconst (pc := 74) (v := (1 : Int32)) dX9_advance_74 (by decide) ?_
    refine V_goto (pc := 75) (tgt := 79) dX9_advance_75 (by decide) ?_
    exact V_pick [] rfl (r_X9_advance_b79 (1 : Int32) h e hF)
set_option maxRecDepth 100000 in
def F_X9_advance_b17 (v0 : Nat) (v1 : Nat) (t0 : Int32) (h : Hp) : Option (Int32 × Hp) :=
  gd (decide (kd h v0 = 8)) <| ob (iter (fun z : Int32 × Int32 × Hp => F_X9_advance_l25 v0 v1 z.1 z.2.1 z.2.2) FU (t0, (0 : Int32), setI h v0 2 (0 : Int32))) (fun z => un2 z fun w13 h14 => F_X9_advance_b66 v1 w13 h14)
set_option maxHeartbeats 4000000 in
set_option maxRecDepth 100000 in
theorem r_X9_advance_b17 (v0 : Nat) (v1 : Nat) (t0 : Int32) (h : Hp) {x : Cx} {r : Int32} {hz : Hp} (e : F_X9_advance_b17 v0 v1 t0 h = some (r, hz)) (hF : Fin9 M_X9_advance x (some .boolean) (some (.int r)) hz) : V M_X9_advance x 1 17 [(0, .ref v0), (1, .ref v1)] [.int t0] h 0 0 := by
  unfold F_X9_advance_b17 at e
  refine V_istore_n (pc := 17) (i := 2) (lv' := [(2, .int t0), (0, .ref v0), (1, .ref v1)]) dX9_advance_17 rfl (by decide) rfl ?_
  refine V_aload_n (pc := 18) (i := 0) dX9_advance_18 rfl rfl ?_
  refine V_iconst (pc := 19) (v := (0 : Int32)) dX9_advance_19 (by decide) ?_
  obtain ⟨g3, e⟩ := gd_some e
  refine V_putZ (pc := 20) (ci := 8) (k := 2) dX9_advance_20 fp_X9_18 rfl (of_decide_eq_true g3) (by decide) ?_
  refine V_iconst (pc := 23) (v := (0 : Int32)) dX9_advance_23 (by decide) ?_
  refine V_istore_n (pc := 24) (i := 3) (lv' := [(3, .int (0 : Int32)), (2, .int t0), (0, .ref v0), (1, .ref v1)]) dX9_advance_24 rfl (by decide) rfl ?_
  refine V_pick [2, 3, 1, 0] rfl ?_
  obtain ⟨y18, g19, e⟩ := ob_some e
  refine iter_V (P := fun z : Int32 × Int32 × Hp => V M_X9_advance x 1 25 [(0, .ref v0), (1, .ref v1), (2, .int z.1), (3, .int z.2.1)] [] z.2.2 0 0) (E := fun z : Int32 × Hp => V M_X9_advance x 1 66 [(1, .ref v1), (2, .int z.1)] [] z.2 0 0) (fun z o e9 k1 k2 => r_X9_advance_l25 v0 v1 z.1 z.2.1 z.2.2 e9 (fun z hz9 => k1 z hz9) (fun z hz9 => k2 _ hz9)) _ _ _ g19 ?_
  clear g19
  obtain ⟨w13, h14⟩ := y18
  replace e : (F_X9_advance_b66 v1 w13 h14) = some (r, hz) := e
  show V M_X9_advance x 1 66 [(1, .ref v1), (2, .int w13)] [] h14 0 0
  exact V_pick [0, 1] rfl (r_X9_advance_b66 v1 w13 h14 e hF)
set_option maxRecDepth 100000 in
def F_X9_advance_b0 (v0 : Nat) (v1 : Nat) (h : Hp) : Option (Int32 × Hp) :=
  gd (decide (kd h v0 = 8)) <| (if (zI h v0 2) = 0 then gd (decide (kd h v1 = 2)) <| F_X9_advance_b17 v0 v1 ((zI h v1 5) - (1 : Int32)) h else F_X9_advance_b17 v0 v1 (0 : Int32) h)
set_option maxHeartbeats 4000000 in
set_option maxRecDepth 100000 in
theorem r_X9_advance_b0 (v0 : Nat) (v1 : Nat) (h : Hp) {x : Cx} {r : Int32} {hz : Hp} (e : F_X9_advance_b0 v0 v1 h = some (r, hz)) (hF : Fin9 M_X9_advance x (some .boolean) (some (.int r)) hz) : V M_X9_advance x 1 0 [(0, .ref v0), (1, .ref v1)] [] h 0 0 := by
  unfold F_X9_advance_b0 at e
  refine V_aload_n (pc := 0) (i := 0) dX9_advance_0 rfl rfl ?_
  obtain ⟨g1, e⟩ := gd_some e
  refine V_getI (pc := 1) (ci := 8) (k := 2) dX9_advance_1 fl_X9_18 rfl (of_decide_eq_true g1) ?_
  refine V_if_eq (pc := 4) (tgt := 11) dX9_advance_4 (by decide) (fun c20 => ?_) (fun c20 => ?_)
  · rw [if_pos c20] at e
    refine V_pick [0, 1] rfl ?_
    refine V_aload_n (pc := 11) (i := 1) dX9_advance_11 rfl rfl ?_
    obtain ⟨g2, e⟩ := gd_some e
    refine V_getI (pc := 12) (ci := 2) (k := 5) dX9_advance_12 fl_X9_70 rfl (of_decide_eq_true g2) ?_
    refine V_iconst (pc := 15) (v := (1 : Int32)) dX9_advance_15 (by decide) ?_
    refine V_isub (pc := 16) dX9_advance_16 ?_
    exact V_pick [0, 1] rfl (r_X9_advance_b17 v0 v1 ((zI h v1 5) - (1 : Int32)) h e hF)
  · rw [if_neg c20] at e
    refine V_pick [0, 1] rfl ?_
    refine V_iconst (pc := 7) (v := (0 : Int32)) dX9_advance_7 (by decide) ?_
    refine V_goto (pc := 8) (tgt := 17) dX9_advance_8 (by decide) ?_
    exact V_pick [0, 1] rfl (r_X9_advance_b17 v0 v1 (0 : Int32) h e hF)
def F_X9_advance (v0 : Nat) (v1 : Nat) (h : Hp) : Option (Int32 × Hp) := F_X9_advance_b0 v0 v1 h
theorem c_X9_advance {l : Launch} (v0 : Nat) (v1 : Nat) (h : Hp) {r : Int32} {hz : Hp} (e : F_X9_advance v0 v1 h = some (r, hz)) : Ct l yX9_advance M_X9_advance (some .boolean) 1 [.ref v0, .ref v1] h 0 0 (some (.int r)) hz :=
  Ct_of rfl rfl (fun q => by cases q) (Nat.le_of_ble_eq_true rfl) (fun x _ hF => V_pick [0, 1] rfl (r_X9_advance_b0 v0 v1 h e hF))
theorem dX10_init_0 : decode cX10_init 0 = .ok (.aload_n 0, 1) := by decide +kernel
theorem dX10_init_1 : decode cX10_init 1 = .ok (.invokespecial 3, 3) := by decide +kernel
theorem dX10_init_4 : decode cX10_init 4 = .ok (.aload_n 0, 1) := by decide +kernel
theorem dX10_init_5 : decode cX10_init 5 = .ok (.sipush 400, 3) := by decide +kernel
theorem dX10_init_8 : decode cX10_init 8 = .ok (.newarray .int, 2) := by decide +kernel
theorem dX10_init_10 : decode cX10_init 10 = .ok (.putfield 9, 3) := by decide +kernel
theorem dX10_init_13 : decode cX10_init 13 = .ok (.aload_n 0, 1) := by decide +kernel
theorem dX10_init_14 : decode cX10_init 14 = .ok (.bipush 32, 2) := by decide +kernel
theorem dX10_init_16 : decode cX10_init 16 = .ok (.newarray .int, 2) := by decide +kernel
theorem dX10_init_18 : decode cX10_init 18 = .ok (.putfield 15, 3) := by decide +kernel
theorem dX10_init_21 : decode cX10_init 21 = .ok (.aload_n 0, 1) := by decide +kernel
theorem dX10_init_22 : decode cX10_init 22 = .ok (.iconst 0, 1) := by decide +kernel
theorem dX10_init_23 : decode cX10_init 23 = .ok (.putfield 18, 3) := by decide +kernel
theorem dX10_init_26 : decode cX10_init 26 = .ok (.return_, 1) := by decide +kernel
set_option maxRecDepth 100000 in
def F_X10_init_b0 (v0 : Nat) (h : Hp) : Option (Unit × Hp × Nat × Nat) :=
  ob2 (F_X7_init_k9 v0 h) fun _ h3 => ob (some (zN h3)) fun q4 => ac 1 ((400 : Int32)).toNatClampNeg <| gd (decide (kd (alloc h3 13 ((400 : Int32)).toNatClampNeg) v0 = 9)) <| ob (some (zN (setR (alloc h3 13 ((400 : Int32)).toNatClampNeg) v0 1 (some q4)))) fun q9 => ac 1 ((32 : Int32)).toNatClampNeg <| ob (some (setR (alloc (setR (alloc h3 13 ((400 : Int32)).toNatClampNeg) v0 1 (some q4)) 13 ((32 : Int32)).toNatClampNeg) v0 2 (some q9))) fun h13 => some ((), setI h13 v0 3 (0 : Int32), 0, 0)
set_option maxHeartbeats 4000000 in
set_option maxRecDepth 100000 in
theorem r_X10_init_b0 (v0 : Nat) (h : Hp) {x : Cx} {r : Unit} {hz : Hp} {c9 s9 : Nat} (e : F_X10_init_b0 v0 h = some (r, hz, c9, s9)) (hF : Fin9 M_X10_init x none none hz) : V M_X10_init x 2 0 [(0, .ref v0)] [] h c9 s9 := by
  unfold F_X10_init_b0 at e
  refine V_aload_n (pc := 0) (i := 0) dX10_init_0 rfl rfl ?_
  replace e := ob2_some e
  obtain ⟨r2, h3, g1, e⟩ := e
  refine V_callI (pc := 1) (bc := c9) (bs := s9) (mc := 0) (ms := 0) (st := []) (As := []) (a := v0) (h' := h3) dX10_init_1 ml_X10_3 rfl rfl (Nat.le_of_ble_eq_true rfl) (d' := 1) (by decide) (c_X7_init_k9 (l := x.2.1) v0 h g1) ?_
  refine V_aload_n (pc := 4) (i := 0) dX10_init_4 rfl rfl ?_
  refine V_sipush (pc := 5) (v := (400 : Int32)) dX10_init_5 (by decide) ?_
  replace e := ob_some e
  obtain ⟨q4, g5, e⟩ := e
  replace e := ac_some e
  obtain ⟨n6, n7, e, hc9, hs9⟩ := e
  rw [hc9, hs9]
  clear hc9 hs9
  refine V_newIQ (pc := 8) (n := (400 : Int32)) dX10_init_8 wa_int (by decide) (by decide) (q := q4) (bc := n6) (bs := n7) (Option.some.inj g5) ?_
  replace e := gd_some e
  obtain ⟨g8, e⟩ := e
  refine V_putRF (pc := 10) (ci := 9) (k := 1) dX10_init_10 fp_X10_9 rfl (of_decide_eq_true g8) (fun _ => ⟨rfl, rfl⟩) rfl ?_
  refine V_aload_n (pc := 13) (i := 0) dX10_init_13 rfl rfl ?_
  refine V_bipush (pc := 14) (v := (32 : Int32)) dX10_init_14 (by decide) ?_
  replace e := ob_some e
  obtain ⟨q9, g10, e⟩ := e
  replace e := ac_some e
  obtain ⟨n11, n12, e, hc9, hs9⟩ := e
  rw [hc9, hs9]
  clear hc9 hs9
  refine V_newIQ (pc := 16) (n := (32 : Int32)) dX10_init_16 wa_int (by decide) (by decide) (q := q9) (bc := n11) (bs := n12) (Option.some.inj g10) ?_
  refine V_putRF (pc := 18) (ci := 9) (k := 2) dX10_init_18 fp_X10_15 rfl (kd_old (kd_sR (of_decide_eq_true g8)) (by decide)) (fun _ => ⟨rfl, rfl⟩) rfl ?_
  replace e := ob_some e
  obtain ⟨h13, g14, e⟩ := e
  refine V_hp (Option.some.inj g14) ?_
  have k15 : kd h13 q4 = 13 := kd_eq (h := (setR (alloc (setR (alloc h3 13 ((400 : Int32)).toNatClampNeg) v0 1 (some q4)) 13 ((32 : Int32)).toNatClampNeg) v0 2 (some q9))) (Option.some.inj g14) (kd_sR (kd_old (kd_sR (kd_newq (Option.some.inj g5))) (by decide)))
  have k16 : kd h13 v0 = 9 := kd_eq (h := (setR (alloc (setR (alloc h3 13 ((400 : Int32)).toNatClampNeg) v0 1 (some q4)) 13 ((32 : Int32)).toNatClampNeg) v0 2 (some q9))) (Option.some.inj g14) (kd_sR (kd_old (kd_sR (of_decide_eq_true g8)) (by decide)))
  have k17 : kd h13 q9 = 13 := kd_eq (h := (setR (alloc (setR (alloc h3 13 ((400 : Int32)).toNatClampNeg) v0 1 (some q4)) 13 ((32 : Int32)).toNatClampNeg) v0 2 (some q9))) (Option.some.inj g14) (kd_sR (kd_newq (Option.some.inj g10)))
  refine V_aload_n (pc := 21) (i := 0) dX10_init_21 rfl rfl ?_
  refine V_iconst (pc := 22) (v := (0 : Int32)) dX10_init_22 (by decide) ?_
  refine V_putI (pc := 23) (ci := 9) (k := 3) dX10_init_23 fp_X10_18 rfl k16 ?_
  cases e
  exact V_vret (pc := 26) dX10_init_26 hF
def F_X10_init (v0 : Nat) (h : Hp) : Option (Unit × Hp × Nat × Nat) := F_X10_init_b0 v0 h
theorem c_X10_init {l : Launch} (v0 : Nat) (h : Hp) {r : Unit} {hz : Hp} {c9 s9 : Nat} (e : F_X10_init v0 h = some (r, hz, c9, s9)) : Ct l yX10_init M_X10_init none 2 [.ref v0] h c9 s9 none hz :=
  Ct_of rfl rfl (fun _ => rfl) (Nat.le_of_ble_eq_true rfl) (fun x _ hF => V_pick [0] rfl (r_X10_init_b0 v0 h e hF))
theorem dX10_readSum_0 : decode cX10_readSum 0 = .ok (.iconst 0, 1) := by decide +kernel
theorem dX10_readSum_1 : decode cX10_readSum 1 = .ok (.istore_n 2, 1) := by decide +kernel
theorem dX10_readSum_2 : decode cX10_readSum 2 = .ok (.iload_n 2, 1) := by decide +kernel
theorem dX10_readSum_3 : decode cX10_readSum 3 = .ok (.sipush 400, 3) := by decide +kernel
theorem dX10_readSum_6 : decode cX10_readSum 6 = .ok (.if_icmp .ge 77, 3) := by decide +kernel
theorem dX10_readSum_9 : decode cX10_readSum 9 = .ok (.aload_n 1, 1) := by decide +kernel
theorem dX10_readSum_10 : decode cX10_readSum 10 = .ok (.invokestatic 99, 3) := by decide +kernel
theorem dX10_readSum_13 : decode cX10_readSum 13 = .ok (.istore_n 3, 1) := by decide +kernel
theorem dX10_readSum_14 : decode cX10_readSum 14 = .ok (.iload_n 3, 1) := by decide +kernel
theorem dX10_readSum_15 : decode cX10_readSum 15 = .ok (.iconst (-1), 1) := by decide +kernel
theorem dX10_readSum_16 : decode cX10_readSum 16 = .ok (.if_icmp .eq 10, 3) := by decide +kernel
theorem dX10_readSum_19 : decode cX10_readSum 19 = .ok (.aload_n 1, 1) := by decide +kernel
theorem dX10_readSum_20 : decode cX10_readSum 20 = .ok (.invokevirtual 55, 3) := by decide +kernel
theorem dX10_readSum_23 : decode cX10_readSum 23 = .ok (.goto 23, 3) := by decide +kernel
theorem dX10_readSum_26 : decode cX10_readSum 26 = .ok (.aload_n 1, 1) := by decide +kernel
theorem dX10_readSum_27 : decode cX10_readSum 27 = .ok (.iconst 0, 1) := by decide +kernel
theorem dX10_readSum_28 : decode cX10_readSum 28 = .ok (.ldc 103, 2) := by decide +kernel
theorem dX10_readSum_30 : decode cX10_readSum 30 = .ok (.invokevirtual 82, 3) := by decide +kernel
theorem dX10_readSum_33 : decode cX10_readSum 33 = .ok (.ifCond .eq 11, 3) := by decide +kernel
theorem dX10_readSum_36 : decode cX10_readSum 36 = .ok (.aload_n 1, 1) := by decide +kernel
theorem dX10_readSum_37 : decode cX10_readSum 37 = .ok (.getfield 86, 3) := by decide +kernel
theorem dX10_readSum_40 : decode cX10_readSum 40 = .ok (.istore_n 3, 1) := by decide +kernel
theorem dX10_readSum_41 : decode cX10_readSum 41 = .ok (.goto 5, 3) := by decide +kernel
theorem dX10_readSum_44 : decode cX10_readSum 44 = .ok (.iconst 0, 1) := by decide +kernel
theorem dX10_readSum_45 : decode cX10_readSum 45 = .ok (.ireturn, 1) := by decide +kernel
theorem dX10_readSum_46 : decode cX10_readSum 46 = .ok (.aload_n 0, 1) := by decide +kernel
theorem dX10_readSum_47 : decode cX10_readSum 47 = .ok (.iload_n 3, 1) := by decide +kernel
theorem dX10_readSum_48 : decode cX10_readSum 48 = .ok (.invokevirtual 43, 3) := by decide +kernel
theorem dX10_readSum_51 : decode cX10_readSum 51 = .ok (.pop, 1) := by decide +kernel
theorem dX10_readSum_52 : decode cX10_readSum 52 = .ok (.iload_n 2, 1) := by decide +kernel
theorem dX10_readSum_53 : decode cX10_readSum 53 = .ok (.ifCond .le 9, 3) := by decide +kernel
theorem dX10_readSum_56 : decode cX10_readSum 56 = .ok (.aload_n 0, 1) := by decide +kernel
theorem dX10_readSum_57 : decode cX10_readSum 57 = .ok (.iconst (-1), 1) := by decide +kernel
theorem dX10_readSum_58 : decode cX10_readSum 58 = .ok (.invokevirtual 43, 3) := by decide +kernel
theorem dX10_readSum_61 : decode cX10_readSum 61 = .ok (.pop, 1) := by decide +kernel
theorem dX10_readSum_62 : decode cX10_readSum 62 = .ok (.aload_n 1, 1) := by decide +kernel
theorem dX10_readSum_63 : decode cX10_readSum 63 = .ok (.bipush 43, 2) := by decide +kernel
theorem dX10_readSum_65 : decode cX10_readSum 65 = .ok (.invokevirtual 65, 3) := by decide +kernel
theorem dX10_readSum_68 : decode cX10_readSum 68 = .ok (.ifCond .ne 5, 3) := by decide +kernel
theorem dX10_readSum_71 : decode cX10_readSum 71 = .ok (.iconst 1, 1) := by decide +kernel
theorem dX10_readSum_72 : decode cX10_readSum 72 = .ok (.ireturn, 1) := by decide +kernel
theorem dX10_readSum_73 : decode cX10_readSum 73 = .ok (.aload_n 1, 1) := by decide +kernel
theorem dX10_readSum_74 : decode cX10_readSum 74 = .ok (.invokevirtual 55, 3) := by decide +kernel
theorem dX10_readSum_77 : decode cX10_readSum 77 = .ok (.iinc 2 1, 3) := by decide +kernel
theorem dX10_readSum_80 : decode cX10_readSum 80 = .ok (.goto (-78), 3) := by decide +kernel
theorem dX10_readSum_83 : decode cX10_readSum 83 = .ok (.aload_n 1, 1) := by decide +kernel
theorem dX10_readSum_84 : decode cX10_readSum 84 = .ok (.invokevirtual 72, 3) := by decide +kernel
theorem dX10_readSum_87 : decode cX10_readSum 87 = .ok (.ireturn, 1) := by decide +kernel
set_option maxRecDepth 100000 in
def F_X10_readSum_b62 (v0 : Nat) (v1 : Nat) (v2 : Int32) (h : Hp) : Option ((Int32 × Hp) ⊕ (Hp ⊕ (Hp ⊕ Hp))) :=
  ob (F_X6_isSign v1 (43 : Int32) h) fun r13 => gd (decide (kd h v1 = 6)) <| (if r13 = 0 then some (.inr (.inr (.inr h))) else ob2 (F_X6_lookAtNext v1 h) fun _ h17 => some (.inl (v2 + (1 : Int32), h17)))
set_option maxHeartbeats 4000000 in
set_option maxRecDepth 100000 in
theorem r_X10_readSum_b62 (v0 : Nat) (v1 : Nat) (v2 : Int32) (h : Hp) {x : Cx} {o : ((Int32 × Hp) ⊕ (Hp ⊕ (Hp ⊕ Hp)))} (e : F_X10_readSum_b62 v0 v1 v2 h = some o) (kI : ∀ z, o = .inl z → V M_X10_readSum x 6 2 [(0, .ref v0), (1, .ref v1), (2, .int z.1)] [] z.2 0 0) (kE83 : ∀ z : Hp, o = .inr (.inl z) → V M_X10_readSum x 6 83 [(1, .ref v1)] [] z 0 0) (kE44 : ∀ z : Hp, o = .inr (.inr (.inl z)) → V M_X10_readSum x 6 44 [] [] z 0 0) (kE71 : ∀ z : Hp, o = .inr (.inr (.inr z)) → V M_X10_readSum x 6 71 [] [] z 0 0) : V M_X10_readSum x 6 62 [(0, .ref v0), (1, .ref v1), (2, .int v2)] [] h 0 0 := by
  unfold F_X10_readSum_b62 at e
  refine V_aload_n (pc := 62) (i := 1) dX10_readSum_62 rfl rfl ?_
  refine V_bipush (pc := 63) (v := (43 : Int32)) dX10_readSum_63 (by decide) ?_
  obtain ⟨r13, g12, e⟩ := ob_some e
  obtain ⟨g14, e⟩ := gd_some e
  refine V_callV (pc := 65) (bc := 0) (bs := 0) (mc := 0) (ms := 0) (st := []) (As := [.int (43 : Int32)]) (a := v1) (h' := h) (r := some (.int r13)) dX10_readSum_65 ml_X10_65 (ci := 6) rfl (of_decide_eq_true g14) rfl rfl (Nat.le_of_ble_eq_true rfl) (d' := 0) (by decide) (c_X6_isSign (l := x.2.1) v1 (43 : Int32) h g12) ?_
  refine V_if_ne (pc := 68) (tgt := 73) dX10_readSum_68 (by decide) (fun c18 => ?_) (fun c18 => ?_)
  · rw [if_neg c18] at e
    refine V_pick [0, 1, 2] rfl ?_
    refine V_aload_n (pc := 73) (i := 1) dX10_readSum_73 rfl rfl ?_
    obtain ⟨r16, h17, g15, e⟩ := ob2_some e
    refine V_callV (pc := 74) (bc := 0) (bs := 0) (mc := 0) (ms := 0) (st := []) (As := []) (a := v1) (h' := h17) (r := none) dX10_readSum_74 ml_X10_55 (ci := 6) rfl (of_decide_eq_true g14) rfl rfl (Nat.le_of_ble_eq_true rfl) (d' := 1) (by decide) (c_X6_lookAtNext (l := x.2.1) v1 h g15) ?_
    refine V_iinc (pc := 77) (i := 2) (u := v2 + (1 : Int32)) (lv' := [(2, .int (v2 + (1 : Int32))), (0, .ref v0), (1, .ref v1)]) dX10_readSum_77 rfl rfl (by decide) rfl ?_
    refine V_goto (pc := 80) (tgt := 2) dX10_readSum_80 (by decide) ?_
    cases e
    exact V_pick [1, 2, 0] rfl (kI (v2 + (1 : Int32), h17) rfl)
  · rw [if_pos c18] at e
    cases e
    exact V_pick [] rfl (kE71 h rfl)
set_option maxRecDepth 100000 in
def F_X10_readSum_b46 (v0 : Nat) (v1 : Nat) (v2 : Int32) (v3 : Int32) (h : Hp) : Option ((Int32 × Hp) ⊕ (Hp ⊕ (Hp ⊕ Hp))) :=
  ob2 (F_X10_put v0 v3 h) fun r9 h10 => gd (decide (kd h v0 = 9)) <| (if v2 ≤ 0 then F_X10_readSum_b62 v0 v1 v2 h10 else ob2 (F_X10_put v0 (-1 : Int32) h10) fun r20 h21 => gd (decide (kd h10 v0 = 9)) <| F_X10_readSum_b62 v0 v1 v2 h21)
set_option maxHeartbeats 4000000 in
set_option maxRecDepth 100000 in
theorem r_X10_readSum_b46 (v0 : Nat) (v1 : Nat) (v2 : Int32) (v3 : Int32) (h : Hp) {x : Cx} {o : ((Int32 × Hp) ⊕ (Hp ⊕ (Hp ⊕ Hp)))} (e : F_X10_readSum_b46 v0 v1 v2 v3 h = some o) (kI : ∀ z, o = .inl z → V M_X10_readSum x 6 2 [(0, .ref v0), (1, .ref v1), (2, .int z.1)] [] z.2 0 0) (kE83 : ∀ z : Hp, o = .inr (.inl z) → V M_X10_readSum x 6 83 [(1, .ref v1)] [] z 0 0) (kE44 : ∀ z : Hp, o = .inr (.inr (.inl z)) → V M_X10_readSum x 6 44 [] [] z 0 0) (kE71 : ∀ z : Hp, o = .inr (.inr (.inr z)) → V M_X10_readSum x 6 71 [] [] z 0 0) : V M_X10_readSum x 6 46 [(0, .ref v0), (1, .ref v1), (2, .int v2), (3, .int v3)] [] h 0 0 := by
  unfold F_X10_readSum_b46 at e
  refine V_aload_n (pc := 46) (i := 0) dX10_readSum_46 rfl rfl ?_
  refine V_iload_n (pc := 47) (i := 3) dX10_readSum_47 rfl rfl ?_
  obtain ⟨r9, h10, g8, e⟩ := ob2_some e
  obtain ⟨g11, e⟩ := gd_some e
  refine V_callV (pc := 48) (bc := 0) (bs := 0) (mc := 0) (ms := 0) (st := []) (As := [.int v3]) (a := v0) (h' := h10) (r := some (.int r9)) dX10_readSum_48 ml_X10_43 (ci := 9) rfl (of_decide_eq_true g11) rfl rfl (Nat.le_of_ble_eq_true rfl) (d' := 0) (by decide) (c_X10_put (l := x.2.1) v0 v3 h g8) ?_
  refine V_pop (pc := 51) dX10_readSum_51 rfl ?_
  refine V_iload_n (pc := 52) (i := 2) dX10_readSum_52 rfl rfl ?_
  refine V_if_le (pc := 53) (tgt := 62) dX10_readSum_53 (by decide) (fun c23 => ?_) (fun c23 => ?_)
  · rw [if_pos c23] at e
    exact V_pick [0, 1, 2] rfl (r_X10_readSum_b62 v0 v1 v2 h10 e kI kE83 kE44 kE71)
  · rw [if_neg c23] at e
    refine V_pick [0, 1, 2] rfl ?_
    refine V_aload_n (pc := 56) (i := 0) dX10_readSum_56 rfl rfl ?_
    refine V_iconst (pc := 57) (v := (-1 : Int32)) dX10_readSum_57 (by decide) ?_
    obtain ⟨r20, h21, g19, e⟩ := ob2_some e
    obtain ⟨g22, e⟩ := gd_some e
    refine V_callV (pc := 58) (bc := 0) (bs := 0) (mc := 0) (ms := 0) (st := []) (As := [.int (-1 : Int32)]) (a := v0) (h' := h21) (r := some (.int r20)) dX10_readSum_58 ml_X10_43 (ci := 9) rfl (of_decide_eq_true g22) rfl rfl (Nat.le_of_ble_eq_true rfl) (d' := 0) (by decide) (c_X10_put (l := x.2.1) v0 (-1 : Int32) h10 g19) ?_
    refine V_pop (pc := 61) dX10_readSum_61 rfl ?_
    exact V_pick [0, 1, 2] rfl (r_X10_readSum_b62 v0 v1 v2 h21 e kI kE83 kE44 kE71)
set_option maxRecDepth 100000 in
def F_X10_readSum_l2 (v0 : Nat) (v1 : Nat) (v2 : Int32) (h : Hp) : Option ((Int32 × Hp) ⊕ (Hp ⊕ (Hp ⊕ Hp))) :=
  (if (400 : Int32) ≤ v2 then some (.inr (.inl h)) else ob (F_X10_partNamed v1 h) fun r2 => (if r2 = (-1 : Int32) then ob2 (F_X6_takeNumber v1 (0 : Int32) (99999 : Int32) h) fun r4 h5 => gd (decide (kd h v1 = 6)) <| (if r4 = 0 then some (.inr (.inr (.inl h5))) else gd (decide (kd h5 v1 = 6)) <| F_X10_readSum_b46 v0 v1 v2 (zI h5 v1 5) h5) else ob2 (F_X6_lookAtNext v1 h) fun _ h27 => gd (decide (kd h v1 = 6)) <| F_X10_readSum_b46 v0 v1 v2 r2 h27))
set_option maxHeartbeats 4000000 in
set_option maxRecDepth 100000 in
theorem r_X10_readSum_l2 (v0 : Nat) (v1 : Nat) (v2 : Int32) (h : Hp) {x : Cx} {o : ((Int32 × Hp) ⊕ (Hp ⊕ (Hp ⊕ Hp)))} (e : F_X10_readSum_l2 v0 v1 v2 h = some o) (kI : ∀ z, o = .inl z → V M_X10_readSum x 6 2 [(0, .ref v0), (1, .ref v1), (2, .int z.1)] [] z.2 0 0) (kE83 : ∀ z : Hp, o = .inr (.inl z) → V M_X10_readSum x 6 83 [(1, .ref v1)] [] z 0 0) (kE44 : ∀ z : Hp, o = .inr (.inr (.inl z)) → V M_X10_readSum x 6 44 [] [] z 0 0) (kE71 : ∀ z : Hp, o = .inr (.inr (.inr z)) → V M_X10_readSum x 6 71 [] [] z 0 0) : V M_X10_readSum x 6 2 [(0, .ref v0), (1, .ref v1), (2, .int v2)] [] h 0 0 := by
  unfold F_X10_readSum_l2 at e
  refine V_iload_n (pc := 2) (i := 2) dX10_readSum_2 rfl rfl ?_
  refine V_sipush (pc := 3) (v := (400 : Int32)) dX10_readSum_3 (by decide) ?_
  refine V_icmp_ge (pc := 6) (tgt := 83) dX10_readSum_6 (by decide) (fun c30 => ?_) (fun c30 => ?_)
  · rw [if_pos c30] at e
    cases e
    exact V_pick [1] rfl (kE83 h rfl)
  · rw [if_neg c30] at e
    refine V_pick [0, 1, 2] rfl ?_
    refine V_aload_n (pc := 9) (i := 1) dX10_readSum_9 rfl rfl ?_
    obtain ⟨r2, g1, e⟩ := ob_some e
    refine V_callS (pc := 10) (bc := 0) (bs := 0) (mc := 0) (ms := 0) (st := []) (As := [.ref v1]) (h' := h) (r := some (.int r2)) dX10_readSum_10 ml_X10_99 rfl rfl (Nat.le_of_ble_eq_true rfl) (d' := 5) (by decide) (c_X10_partNamed (l := x.2.1) v1 h g1) ?_
    refine V_istore_n (pc := 13) (i := 3) (lv' := [(3, .int r2), (0, .ref v0), (1, .ref v1), (2, .int v2)]) dX10_readSum_13 rfl (by decide) rfl ?_
    refine V_iload_n (pc := 14) (i := 3) dX10_readSum_14 rfl rfl ?_
    refine V_iconst (pc := 15) (v := (-1 : Int32)) dX10_readSum_15 (by decide) ?_
    refine V_icmp_eq (pc := 16) (tgt := 26) dX10_readSum_16 (by decide) (fun c29 => ?_) (fun c29 => ?_)
    · rw [if_pos c29] at e
      refine V_pick [1, 2, 3] rfl ?_
      refine V_aload_n (pc := 26) (i := 1) dX10_readSum_26 rfl rfl ?_
      refine V_iconst (pc := 27) (v := (0 : Int32)) dX10_readSum_27 (by decide) ?_
      refine V_ldc (pc := 28) (v := (99999 : Int32)) dX10_readSum_28 (wk_X10_103) ?_
      obtain ⟨r4, h5, g3, e⟩ := ob2_some e
      obtain ⟨g6, e⟩ := gd_some e
      refine V_callV (pc := 30) (bc := 0) (bs := 0) (mc := 0) (ms := 0) (st := []) (As := [.int (0 : Int32), .int (99999 : Int32)]) (a := v1) (h' := h5) (r := some (.int r4)) dX10_readSum_30 ml_X10_82 (ci := 6) rfl (of_decide_eq_true g6) rfl rfl (Nat.le_of_ble_eq_true rfl) (d' := 2) (by decide) (c_X6_takeNumber (l := x.2.1) v1 (0 : Int32) (99999 : Int32) h g3) ?_
      refine V_if_eq (pc := 33) (tgt := 44) dX10_readSum_33 (by decide) (fun c24 => ?_) (fun c24 => ?_)
      · rw [if_pos c24] at e
        cases e
        exact V_pick [] rfl (kE44 h5 rfl)
      · rw [if_neg c24] at e
        refine V_pick [0, 1, 2] rfl ?_
        refine V_aload_n (pc := 36) (i := 1) dX10_readSum_36 rfl rfl ?_
        obtain ⟨g7, e⟩ := gd_some e
        refine V_getI (pc := 37) (ci := 6) (k := 5) dX10_readSum_37 fl_X10_86 rfl (of_decide_eq_true g7) ?_
        refine V_istore_n (pc := 40) (i := 3) (lv' := [(3, .int (zI h5 v1 5)), (0, .ref v0), (1, .ref v1), (2, .int v2)]) dX10_readSum_40 rfl (by decide) rfl ?_
        refine V_goto (pc := 41) (tgt := 46) dX10_readSum_41 (by decide) ?_
        exact V_pick [1, 2, 3, 0] rfl (r_X10_readSum_b46 v0 v1 v2 (zI h5 v1 5) h5 e kI kE83 kE44 kE71)
    · rw [if_neg c29] at e
      refine V_pick [1, 2, 3, 0] rfl ?_
      refine V_aload_n (pc := 19) (i := 1) dX10_readSum_19 rfl rfl ?_
      obtain ⟨r26, h27, g25, e⟩ := ob2_some e
      obtain ⟨g28, e⟩ := gd_some e
      refine V_callV (pc := 20) (bc := 0) (bs := 0) (mc := 0) (ms := 0) (st := []) (As := []) (a := v1) (h' := h27) (r := none) dX10_readSum_20 ml_X10_55 (ci := 6) rfl (of_decide_eq_true g28) rfl rfl (Nat.le_of_ble_eq_true rfl) (d' := 1) (by decide) (c_X6_lookAtNext (l := x.2.1) v1 h g25) ?_
      refine V_goto (pc := 23) (tgt := 46) dX10_readSum_23 (by decide) ?_
      exact V_pick [0, 1, 2, 3] rfl (r_X10_readSum_b46 v0 v1 v2 r2 h27 e kI kE83 kE44 kE71)
set_option maxRecDepth 100000 in
def F_X10_readSum_b0 (v0 : Nat) (v1 : Nat) (h : Hp) : Option (Int32 × Hp) :=
  ob (iter (fun z : Int32 × Hp => F_X10_readSum_l2 v0 v1 z.1 z.2) FU ((0 : Int32), h)) (fun z => sm z (fun h31 => ob2 (F_X6_refuse v1 h31) fun r33 h34 => gd (decide (kd h31 v1 = 6)) <| gd (decide (r33 = 0 ∨ r33 = 1)) <| some (r33, h34)) (fun z => sm z (fun h37 => some ((0 : Int32), h37)) (fun h38 => some ((1 : Int32), h38))))
set_option maxHeartbeats 4000000 in
set_option maxRecDepth 100000 in
theorem r_X10_readSum_b0 (v0 : Nat) (v1 : Nat) (h : Hp) {x : Cx} {r : Int32} {hz : Hp} (e : F_X10_readSum_b0 v0 v1 h = some (r, hz)) (hF : Fin9 M_X10_readSum x (some .boolean) (some (.int r)) hz) : V M_X10_readSum x 6 0 [(0, .ref v0), (1, .ref v1)] [] h 0 0 := by
  unfold F_X10_readSum_b0 at e
  refine V_iconst (pc := 0) (v := (0 : Int32)) dX10_readSum_0 (by decide) ?_
  refine V_istore_n (pc := 1) (i := 2) (lv' := [(2, .int (0 : Int32)), (0, .ref v0), (1, .ref v1)]) dX10_readSum_1 rfl (by decide) rfl ?_
  refine V_pick [1, 2, 0] rfl ?_
  obtain ⟨y39, g40, e⟩ := ob_some e
  refine iter_V (P := fun z : Int32 × Hp => V M_X10_readSum x 6 2 [(0, .ref v0), (1, .ref v1), (2, .int z.1)] [] z.2 0 0) (E := fun z => Sum.elim (fun z : Hp => V M_X10_readSum x 6 83 [(1, .ref v1)] [] z 0 0) (fun z => Sum.elim (fun z : Hp => V M_X10_readSum x 6 44 [] [] z 0 0) (fun z : Hp => V M_X10_readSum x 6 71 [] [] z 0 0) z) z) (fun z o e9 k1 k2 => r_X10_readSum_l2 v0 v1 z.1 z.2 e9 (fun z hz9 => k1 z hz9) (fun z hz9 => k2 _ hz9) (fun z hz9 => k2 _ hz9) (fun z hz9 => k2 _ hz9)) _ _ _ g40 ?_
  clear g40
  rcases y39 with y41 | y42
  · obtain ⟨h31, rfl⟩ : ∃ q, q = y41 := ⟨_, rfl⟩
    replace e : (ob2 (F_X6_refuse v1 h31) fun r33 h34 => gd (decide (kd h31 v1 = 6)) <| gd (decide (r33 = 0 ∨ r33 = 1)) <| some (r33, h34)) = some (r, hz) := e
    show V M_X10_readSum x 6 83 [(1, .ref v1)] [] h31 0 0
    refine V_aload_n (pc := 83) (i := 1) dX10_readSum_83 rfl rfl ?_
    obtain ⟨r33, h34, g32, e⟩ := ob2_some e
    obtain ⟨g35, e⟩ := gd_some e
    refine V_callV (pc := 84) (bc := 0) (bs := 0) (mc := 0) (ms := 0) (st := []) (As := []) (a := v1) (h' := h34) (r := some (.int r33)) dX10_readSum_84 ml_X10_72 (ci := 6) rfl (of_decide_eq_true g35) rfl rfl (Nat.le_of_ble_eq_true rfl) (d' := 0) (by decide) (c_X6_refuse (l := x.2.1) v1 h31 g32) ?_
    obtain ⟨g36, e⟩ := gd_some e
    cases e
    exact V_zret (pc := 87) dX10_readSum_87 (z01 (of_decide_eq_true g36)) hF
  · rcases y42 with y43 | y44
    · obtain ⟨h37, rfl⟩ : ∃ q, q = y43 := ⟨_, rfl⟩
      replace e : (some ((0 : Int32), h37)) = some (r, hz) := e
      show V M_X10_readSum x 6 44 [] [] h37 0 0
      refine V_iconst (pc := 44) (v := (0 : Int32)) dX10_readSum_44 (by decide) ?_
      cases e
      exact V_zret (pc := 45) dX10_readSum_45 rfl hF
    · obtain ⟨h38, rfl⟩ : ∃ q, q = y44 := ⟨_, rfl⟩
      replace e : (some ((1 : Int32), h38)) = some (r, hz) := e
      show V M_X10_readSum x 6 71 [] [] h38 0 0
      refine V_iconst (pc := 71) (v := (1 : Int32)) dX10_readSum_71 (by decide) ?_
      cases e
      exact V_zret (pc := 72) dX10_readSum_72 rfl hF
def F_X10_readSum (v0 : Nat) (v1 : Nat) (h : Hp) : Option (Int32 × Hp) := F_X10_readSum_b0 v0 v1 h
theorem c_X10_readSum {l : Launch} (v0 : Nat) (v1 : Nat) (h : Hp) {r : Int32} {hz : Hp} (e : F_X10_readSum v0 v1 h = some (r, hz)) : Ct l yX10_readSum M_X10_readSum (some .boolean) 6 [.ref v0, .ref v1] h 0 0 (some (.int r)) hz :=
  Ct_of rfl rfl (fun q => by cases q) (Nat.le_of_ble_eq_true rfl) (fun x _ hF => V_pick [0, 1] rfl (r_X10_readSum_b0 v0 v1 h e hF))
theorem dX10_holding_0 : decode cX10_holding 0 = .ok (.iconst 0, 1) := by decide +kernel
theorem dX10_holding_1 : decode cX10_holding 1 = .ok (.istore 4, 2) := by decide +kernel
theorem dX10_holding_3 : decode cX10_holding 3 = .ok (.iconst 0, 1) := by decide +kernel
theorem dX10_holding_4 : decode cX10_holding 4 = .ok (.istore 5, 2) := by decide +kernel
theorem dX10_holding_6 : decode cX10_holding 6 = .ok (.iconst 0, 1) := by decide +kernel
theorem dX10_holding_7 : decode cX10_holding 7 = .ok (.istore 6, 2) := by decide +kernel
theorem dX10_holding_9 : decode cX10_holding 9 = .ok (.iload 6, 2) := by decide +kernel
theorem dX10_holding_11 : decode cX10_holding 11 = .ok (.aload_n 0, 1) := by decide +kernel
theorem dX10_holding_12 : decode cX10_holding 12 = .ok (.getfield 18, 3) := by decide +kernel
theorem dX10_holding_15 : decode cX10_holding 15 = .ok (.if_icmp .ge 168, 3) := by decide +kernel
theorem dX10_holding_18 : decode cX10_holding 18 = .ok (.aload_n 0, 1) := by decide +kernel
theorem dX10_holding_19 : decode cX10_holding 19 = .ok (.getfield 9, 3) := by decide +kernel
theorem dX10_holding_22 : decode cX10_holding 22 = .ok (.iload 6, 2) := by decide +kernel
theorem dX10_holding_24 : decode cX10_holding 24 = .ok (.iaload, 1) := by decide +kernel
theorem dX10_holding_25 : decode cX10_holding 25 = .ok (.istore 7, 2) := by decide +kernel
theorem dX10_holding_27 : decode cX10_holding 27 = .ok (.iload 7, 2) := by decide +kernel
theorem dX10_holding_29 : decode cX10_holding 29 = .ok (.ifCond .ge 10, 3) := by decide +kernel
theorem dX10_holding_32 : decode cX10_holding 32 = .ok (.iload 7, 2) := by decide +kernel
theorem dX10_holding_34 : decode cX10_holding 34 = .ok (.bipush (-8), 2) := by decide +kernel
theorem dX10_holding_36 : decode cX10_holding 36 = .ok (.if_icmp .gt 34, 3) := by decide +kernel
theorem dX10_holding_39 : decode cX10_holding 39 = .ok (.iload 5, 2) := by decide +kernel
theorem dX10_holding_41 : decode cX10_holding 41 = .ok (.aload_n 0, 1) := by decide +kernel
theorem dX10_holding_42 : decode cX10_holding 42 = .ok (.getfield 15, 3) := by decide +kernel
theorem dX10_holding_45 : decode cX10_holding 45 = .ok (.arraylength, 1) := by decide +kernel
theorem dX10_holding_46 : decode cX10_holding 46 = .ok (.if_icmp .ge 131, 3) := by decide +kernel
theorem dX10_holding_49 : decode cX10_holding 49 = .ok (.aload_n 0, 1) := by decide +kernel
theorem dX10_holding_50 : decode cX10_holding 50 = .ok (.getfield 15, 3) := by decide +kernel
theorem dX10_holding_53 : decode cX10_holding 53 = .ok (.iload 5, 2) := by decide +kernel
theorem dX10_holding_55 : decode cX10_holding 55 = .ok (.iload 7, 2) := by decide +kernel
theorem dX10_holding_57 : decode cX10_holding 57 = .ok (.aload_n 1, 1) := by decide +kernel
theorem dX10_holding_58 : decode cX10_holding 58 = .ok (.iload_n 2, 1) := by decide +kernel
theorem dX10_holding_59 : decode cX10_holding 59 = .ok (.aload_n 3, 1) := by decide +kernel
theorem dX10_holding_60 : decode cX10_holding 60 = .ok (.invokestatic 116, 3) := by decide +kernel
theorem dX10_holding_63 : decode cX10_holding 63 = .ok (.iastore, 1) := by decide +kernel
theorem dX10_holding_64 : decode cX10_holding 64 = .ok (.iinc 5 1, 3) := by decide +kernel
theorem dX10_holding_67 : decode cX10_holding 67 = .ok (.goto 110, 3) := by decide +kernel
theorem dX10_holding_70 : decode cX10_holding 70 = .ok (.iload 7, 2) := by decide +kernel
theorem dX10_holding_72 : decode cX10_holding 72 = .ok (.bipush (-7), 2) := by decide +kernel
theorem dX10_holding_74 : decode cX10_holding 74 = .ok (.if_icmp .ne 29, 3) := by decide +kernel
theorem dX10_holding_77 : decode cX10_holding 77 = .ok (.iload 4, 2) := by decide +kernel
theorem dX10_holding_79 : decode cX10_holding 79 = .ok (.iload 5, 2) := by decide +kernel
theorem dX10_holding_81 : decode cX10_holding 81 = .ok (.ifCond .le 12, 3) := by decide +kernel
theorem dX10_holding_84 : decode cX10_holding 84 = .ok (.aload_n 0, 1) := by decide +kernel
theorem dX10_holding_85 : decode cX10_holding 85 = .ok (.getfield 15, 3) := by decide +kernel
theorem dX10_holding_88 : decode cX10_holding 88 = .ok (.iconst 0, 1) := by decide +kernel
theorem dX10_holding_89 : decode cX10_holding 89 = .ok (.iaload, 1) := by decide +kernel
theorem dX10_holding_90 : decode cX10_holding 90 = .ok (.goto 4, 3) := by decide +kernel
theorem dX10_holding_93 : decode cX10_holding 93 = .ok (.iconst 0, 1) := by decide +kernel
theorem dX10_holding_94 : decode cX10_holding 94 = .ok (.iadd, 1) := by decide +kernel
theorem dX10_holding_95 : decode cX10_holding 95 = .ok (.istore 4, 2) := by decide +kernel
theorem dX10_holding_97 : decode cX10_holding 97 = .ok (.iconst 0, 1) := by decide +kernel
theorem dX10_holding_98 : decode cX10_holding 98 = .ok (.istore 5, 2) := by decide +kernel
theorem dX10_holding_100 : decode cX10_holding 100 = .ok (.goto 77, 3) := by decide +kernel
theorem dX10_holding_103 : decode cX10_holding 103 = .ok (.iload 7, 2) := by decide +kernel
theorem dX10_holding_105 : decode cX10_holding 105 = .ok (.bipush (-6), 2) := by decide +kernel
theorem dX10_holding_107 : decode cX10_holding 107 = .ok (.if_icmp .ne 31, 3) := by decide +kernel
theorem dX10_holding_110 : decode cX10_holding 110 = .ok (.iload 5, 2) := by decide +kernel
theorem dX10_holding_112 : decode cX10_holding 112 = .ok (.ifCond .le 65, 3) := by decide +kernel
theorem dX10_holding_115 : decode cX10_holding 115 = .ok (.aload_n 0, 1) := by decide +kernel
theorem dX10_holding_116 : decode cX10_holding 116 = .ok (.getfield 15, 3) := by decide +kernel
theorem dX10_holding_119 : decode cX10_holding 119 = .ok (.iload 5, 2) := by decide +kernel
theorem dX10_holding_121 : decode cX10_holding 121 = .ok (.iconst 1, 1) := by decide +kernel
theorem dX10_holding_122 : decode cX10_holding 122 = .ok (.isub, 1) := by decide +kernel
theorem dX10_holding_123 : decode cX10_holding 123 = .ok (.iconst 1, 1) := by decide +kernel
theorem dX10_holding_124 : decode cX10_holding 124 = .ok (.aload_n 0, 1) := by decide +kernel
theorem dX10_holding_125 : decode cX10_holding 125 = .ok (.getfield 15, 3) := by decide +kernel
theorem dX10_holding_128 : decode cX10_holding 128 = .ok (.iload 5, 2) := by decide +kernel
theorem dX10_holding_130 : decode cX10_holding 130 = .ok (.iconst 1, 1) := by decide +kernel
theorem dX10_holding_131 : decode cX10_holding 131 = .ok (.isub, 1) := by decide +kernel
theorem dX10_holding_132 : decode cX10_holding 132 = .ok (.iaload, 1) := by decide +kernel
theorem dX10_holding_133 : decode cX10_holding 133 = .ok (.isub, 1) := by decide +kernel
theorem dX10_holding_134 : decode cX10_holding 134 = .ok (.iastore, 1) := by decide +kernel
theorem dX10_holding_135 : decode cX10_holding 135 = .ok (.goto 42, 3) := by decide +kernel
theorem dX10_holding_138 : decode cX10_holding 138 = .ok (.iload 5, 2) := by decide +kernel
theorem dX10_holding_140 : decode cX10_holding 140 = .ok (.iconst 1, 1) := by decide +kernel
theorem dX10_holding_141 : decode cX10_holding 141 = .ok (.if_icmp .le 36, 3) := by decide +kernel
theorem dX10_holding_144 : decode cX10_holding 144 = .ok (.iinc 5 (-1), 3) := by decide +kernel
theorem dX10_holding_147 : decode cX10_holding 147 = .ok (.aload_n 0, 1) := by decide +kernel
theorem dX10_holding_148 : decode cX10_holding 148 = .ok (.getfield 15, 3) := by decide +kernel
theorem dX10_holding_151 : decode cX10_holding 151 = .ok (.iload 5, 2) := by decide +kernel
theorem dX10_holding_153 : decode cX10_holding 153 = .ok (.iconst 1, 1) := by decide +kernel
theorem dX10_holding_154 : decode cX10_holding 154 = .ok (.isub, 1) := by decide +kernel
theorem dX10_holding_155 : decode cX10_holding 155 = .ok (.iload 7, 2) := by decide +kernel
theorem dX10_holding_157 : decode cX10_holding 157 = .ok (.aload_n 0, 1) := by decide +kernel
theorem dX10_holding_158 : decode cX10_holding 158 = .ok (.getfield 15, 3) := by decide +kernel
theorem dX10_holding_161 : decode cX10_holding 161 = .ok (.iload 5, 2) := by decide +kernel
theorem dX10_holding_163 : decode cX10_holding 163 = .ok (.iconst 1, 1) := by decide +kernel
theorem dX10_holding_164 : decode cX10_holding 164 = .ok (.isub, 1) := by decide +kernel
theorem dX10_holding_165 : decode cX10_holding 165 = .ok (.iaload, 1) := by decide +kernel
theorem dX10_holding_166 : decode cX10_holding 166 = .ok (.aload_n 0, 1) := by decide +kernel
theorem dX10_holding_167 : decode cX10_holding 167 = .ok (.getfield 15, 3) := by decide +kernel
theorem dX10_holding_170 : decode cX10_holding 170 = .ok (.iload 5, 2) := by decide +kernel
theorem dX10_holding_172 : decode cX10_holding 172 = .ok (.iaload, 1) := by decide +kernel
theorem dX10_holding_173 : decode cX10_holding 173 = .ok (.invokestatic 120, 3) := by decide +kernel
theorem dX10_holding_176 : decode cX10_holding 176 = .ok (.iastore, 1) := by decide +kernel
theorem dX10_holding_177 : decode cX10_holding 177 = .ok (.iinc 6 1, 3) := by decide +kernel
theorem dX10_holding_180 : decode cX10_holding 180 = .ok (.goto (-171), 3) := by decide +kernel
theorem dX10_holding_183 : decode cX10_holding 183 = .ok (.iload 4, 2) := by decide +kernel
theorem dX10_holding_185 : decode cX10_holding 185 = .ok (.ireturn, 1) := by decide +kernel
set_option maxRecDepth 100000 in
def F_X10_holding_b177 (v0 : Nat) (v1 : Nat) (v2 : Int32) (v3 : Nat) (v4 : Int32) (v5 : Int32) (v6 : Int32) (h : Hp) : Option ((Int32 × Int32 × Int32 × Hp) ⊕ (Int32 × Hp)) :=
  some (.inl (v4, v5, v6 + (1 : Int32), h))
set_option maxHeartbeats 4000000 in
set_option maxRecDepth 100000 in
theorem r_X10_holding_b177 (v0 : Nat) (v1 : Nat) (v2 : Int32) (v3 : Nat) (v4 : Int32) (v5 : Int32) (v6 : Int32) (h : Hp) {x : Cx} {o : ((Int32 × Int32 × Int32 × Hp) ⊕ (Int32 × Hp))} (e : F_X10_holding_b177 v0 v1 v2 v3 v4 v5 v6 h = some o) (kI : ∀ z, o = .inl z → V M_X10_holding x 3 9 [(0, .ref v0), (1, .ref v1), (2, .int v2), (3, .ref v3), (4, .int z.1), (5, .int z.2.1), (6, .int z.2.2.1)] [] z.2.2.2 0 0) (kE183 : ∀ z : Int32 × Hp, o = .inr z → V M_X10_holding x 3 183 [(4, .int z.1)] [] z.2 0 0) : V M_X10_holding x 3 177 [(0, .ref v0), (1, .ref v1), (2, .int v2), (3, .ref v3), (4, .int v4), (5, .int v5), (6, .int v6)] [] h 0 0 := by
  unfold F_X10_holding_b177 at e
  refine V_iinc (pc := 177) (i := 6) (u := v6 + (1 : Int32)) (lv' := [(6, .int (v6 + (1 : Int32))), (0, .ref v0), (1, .ref v1), (2, .int v2), (3, .ref v3), (4, .int v4), (5, .int v5)]) dX10_holding_177 rfl rfl (by decide) rfl ?_
  refine V_goto (pc := 180) (tgt := 9) dX10_holding_180 (by decide) ?_
  cases e
  exact V_pick [1, 2, 3, 4, 5, 6, 0] rfl (kI (v4, v5, v6 + (1 : Int32), h) rfl)
set_option maxRecDepth 100000 in
def F_X10_holding_b39 (v0 : Nat) (v1 : Nat) (v2 : Int32) (v3 : Nat) (v4 : Int32) (v5 : Int32) (v6 : Int32) (v7 : Int32) (h : Hp) : Option ((Int32 × Int32 × Int32 × Hp) ⊕ (Int32 × Hp)) :=
  gd (decide (kd h v0 = 9)) <| ob (zR h v0 2) fun q7 => gd (decide (kd h q7 = 13)) <| (if (Int32.ofNat (zl h q7)) ≤ v5 then F_X10_holding_b177 v0 v1 v2 v3 v4 v5 v6 h else ob (zR h v0 2) fun q10 => ob (F_X10_valueOf v7 v1 v2 v3 h) fun r13 => gd (decide (kd h q10 = 13)) <| gd (ix v5 (zl h q10)) <| F_X10_holding_b177 v0 v1 v2 v3 v4 (v5 + (1 : Int32)) v6 (setI h q10 (v5).toNatClampNeg r13))
set_option maxHeartbeats 4000000 in
set_option maxRecDepth 100000 in
theorem r_X10_holding_b39 (v0 : Nat) (v1 : Nat) (v2 : Int32) (v3 : Nat) (v4 : Int32) (v5 : Int32) (v6 : Int32) (v7 : Int32) (h : Hp) {x : Cx} {o : ((Int32 × Int32 × Int32 × Hp) ⊕ (Int32 × Hp))} (e : F_X10_holding_b39 v0 v1 v2 v3 v4 v5 v6 v7 h = some o) (kI : ∀ z, o = .inl z → V M_X10_holding x 3 9 [(0, .ref v0), (1, .ref v1), (2, .int v2), (3, .ref v3), (4, .int z.1), (5, .int z.2.1), (6, .int z.2.2.1)] [] z.2.2.2 0 0) (kE183 : ∀ z : Int32 × Hp, o = .inr z → V M_X10_holding x 3 183 [(4, .int z.1)] [] z.2 0 0) : V M_X10_holding x 3 39 [(0, .ref v0), (1, .ref v1), (2, .int v2), (3, .ref v3), (4, .int v4), (5, .int v5), (6, .int v6), (7, .int v7)] [] h 0 0 := by
  unfold F_X10_holding_b39 at e
  refine V_iload (pc := 39) (i := 5) dX10_holding_39 rfl ?_
  refine V_aload_n (pc := 41) (i := 0) dX10_holding_41 rfl rfl ?_
  obtain ⟨g6, e⟩ := gd_some e
  obtain ⟨q7, g8, e⟩ := ob_some e
  refine V_getR (pc := 42) (ci := 9) (k := 2) (b := q7) dX10_holding_42 fl_X10_15 rfl (of_decide_eq_true g6) g8 ?_
  obtain ⟨g9, e⟩ := gd_some e
  refine V_alen (pc := 45) (k := 13) dX10_holding_45 (of_decide_eq_true g9) (by decide) ?_
  refine V_icmp_ge (pc := 46) (tgt := 177) dX10_holding_46 (by decide) (fun c16 => ?_) (fun c16 => ?_)
  · rw [if_pos c16] at e
    exact V_pick [0, 1, 2, 3, 4, 5, 6] rfl (r_X10_holding_b177 v0 v1 v2 v3 v4 v5 v6 h e kI kE183)
  · rw [if_neg c16] at e
    refine V_pick [0, 1, 2, 3, 4, 5, 6, 7] rfl ?_
    refine V_aload_n (pc := 49) (i := 0) dX10_holding_49 rfl rfl ?_
    obtain ⟨q10, g11, e⟩ := ob_some e
    refine V_getR (pc := 50) (ci := 9) (k := 2) (b := q10) dX10_holding_50 fl_X10_15 rfl (of_decide_eq_true g6) g11 ?_
    refine V_iload (pc := 53) (i := 5) dX10_holding_53 rfl ?_
    refine V_iload (pc := 55) (i := 7) dX10_holding_55 rfl ?_
    refine V_aload_n (pc := 57) (i := 1) dX10_holding_57 rfl rfl ?_
    refine V_iload_n (pc := 58) (i := 2) dX10_holding_58 rfl rfl ?_
    refine V_aload_n (pc := 59) (i := 3) dX10_holding_59 rfl rfl ?_
    obtain ⟨r13, g12, e⟩ := ob_some e
    refine V_callS (pc := 60) (bc := 0) (bs := 0) (mc := 0) (ms := 0) (st := [.int v5, .ref q10]) (As := [.int v7, .ref v1, .int v2, .ref v3]) (h' := h) (r := some (.int r13)) dX10_holding_60 ml_X10_116 rfl rfl (Nat.le_of_ble_eq_true rfl) (d' := 2) (by decide) (c_X10_valueOf (l := x.2.1) v7 v1 v2 v3 h g12) ?_
    obtain ⟨g14, e⟩ := gd_some e
    obtain ⟨g15, e⟩ := gd_some e
    refine V_iast (pc := 63) dX10_holding_63 (of_decide_eq_true g14) (ix_in g15) ?_
    refine V_iinc (pc := 64) (i := 5) (u := v5 + (1 : Int32)) (lv' := [(5, .int (v5 + (1 : Int32))), (0, .ref v0), (1, .ref v1), (2, .int v2), (3, .ref v3), (4, .int v4), (6, .int v6), (7, .int v7)]) dX10_holding_64 rfl rfl (by decide) rfl ?_
    refine V_goto (pc := 67) (tgt := 177) dX10_holding_67 (by decide) ?_
    exact V_pick [1, 2, 3, 4, 5, 0, 6] rfl (r_X10_holding_b177 v0 v1 v2 v3 v4 (v5 + (1 : Int32)) v6 (setI h q10 (v5).toNatClampNeg r13) e kI kE183)
set_option maxRecDepth 100000 in
def F_X10_holding_b94 (v0 : Nat) (v1 : Nat) (v2 : Int32) (v3 : Nat) (v6 : Int32) (t0 : Int32) (t1 : Int32) (h : Hp) : Option ((Int32 × Int32 × Int32 × Hp) ⊕ (Int32 × Hp)) :=
  F_X10_holding_b177 v0 v1 v2 v3 (t0 + t1) (0 : Int32) v6 h
set_option maxHeartbeats 4000000 in
set_option maxRecDepth 100000 in
theorem r_X10_holding_b94 (v0 : Nat) (v1 : Nat) (v2 : Int32) (v3 : Nat) (v6 : Int32) (t0 : Int32) (t1 : Int32) (h : Hp) {x : Cx} {o : ((Int32 × Int32 × Int32 × Hp) ⊕ (Int32 × Hp))} (e : F_X10_holding_b94 v0 v1 v2 v3 v6 t0 t1 h = some o) (kI : ∀ z, o = .inl z → V M_X10_holding x 3 9 [(0, .ref v0), (1, .ref v1), (2, .int v2), (3, .ref v3), (4, .int z.1), (5, .int z.2.1), (6, .int z.2.2.1)] [] z.2.2.2 0 0) (kE183 : ∀ z : Int32 × Hp, o = .inr z → V M_X10_holding x 3 183 [(4, .int z.1)] [] z.2 0 0) : V M_X10_holding x 3 94 [(0, .ref v0), (1, .ref v1), (2, .int v2), (3, .ref v3), (6, .int v6)] [.int t1, .int t0] h 0 0 := by
  unfold F_X10_holding_b94 at e
  refine V_iadd (pc := 94) dX10_holding_94 ?_
  refine V_istore (pc := 95) (i := 4) (lv' := [(4, .int (t0 + t1)), (0, .ref v0), (1, .ref v1), (2, .int v2), (3, .ref v3), (6, .int v6)]) dX10_holding_95 (by decide) rfl ?_
  refine V_iconst (pc := 97) (v := (0 : Int32)) dX10_holding_97 (by decide) ?_
  refine V_istore (pc := 98) (i := 5) (lv' := [(5, .int (0 : Int32)), (4, .int (t0 + t1)), (0, .ref v0), (1, .ref v1), (2, .int v2), (3, .ref v3), (6, .int v6)]) dX10_holding_98 (by decide) rfl ?_
  refine V_goto (pc := 100) (tgt := 177) dX10_holding_100 (by decide) ?_
  exact V_pick [2, 3, 4, 5, 1, 0, 6] rfl (r_X10_holding_b177 v0 v1 v2 v3 (t0 + t1) (0 : Int32) v6 h e kI kE183)
set_option maxRecDepth 100000 in
def F_X10_holding_l9 (v0 : Nat) (v1 : Nat) (v2 : Int32) (v3 : Nat) (v4 : Int32) (v5 : Int32) (v6 : Int32) (h : Hp) : Option ((Int32 × Int32 × Int32 × Hp) ⊕ (Int32 × Hp)) :=
  gd (decide (kd h v0 = 9)) <| (if (zI h v0 3) ≤ v6 then some (.inr (v4, h)) else ob (zR h v0 1) fun q2 => gd (decide (kd h q2 = 13)) <| gd (ix v6 (zl h q2)) <| (if 0 ≤ (zI h q2 (v6).toNatClampNeg) then F_X10_holding_b39 v0 v1 v2 v3 v4 v5 v6 (zI h q2 (v6).toNatClampNeg) h else (if (-8 : Int32) < (zI h q2 (v6).toNatClampNeg) then (if (zI h q2 (v6).toNatClampNeg) = (-7 : Int32) then (if v5 ≤ 0 then F_X10_holding_b94 v0 v1 v2 v3 v6 v4 (0 : Int32) h else ob (zR h v0 2) fun q42 => gd (decide (kd h q42 = 13)) <| gd (ix (0 : Int32) (zl h q42)) <| F_X10_holding_b94 v0 v1 v2 v3 v6 v4 (zI h q42 ((0 : Int32)).toNatClampNeg) h) else (if (zI h q2 (v6).toNatClampNeg) = (-6 : Int32) then (if v5 ≤ 0 then F_X10_holding_b177 v0 v1 v2 v3 v4 v5 v6 h else ob (zR h v0 2) fun q32 => ob (zR h v0 2) fun q34 => gd (decide (kd h q34 = 13)) <| gd (ix (v5 - (1 : Int32)) (zl h q34)) <| gd (decide (kd h q32 = 13)) <| gd (ix (v5 - (1 : Int32)) (zl h q32)) <| F_X10_holding_b177 v0 v1 v2 v3 v4 v5 v6 (setI h q32 (v5 - (1 : Int32)).toNatClampNeg ((1 : Int32) - (zI h q34 (v5 - (1 : Int32)).toNatClampNeg)))) else (if v5 ≤ (1 : Int32) then F_X10_holding_b177 v0 v1 v2 v3 v4 v5 v6 h else ob (zR h v0 2) fun q17 => ob (zR h v0 2) fun q19 => gd (decide (kd h q19 = 13)) <| gd (ix ((v5 + (-1 : Int32)) - (1 : Int32)) (zl h q19)) <| ob (zR h v0 2) fun q23 => gd (decide (kd h q23 = 13)) <| gd (ix (v5 + (-1 : Int32)) (zl h q23)) <| ob (F_X10_join (zI h q2 (v6).toNatClampNeg) (zI h q19 ((v5 + (-1 : Int32)) - (1 : Int32)).toNatClampNeg) (zI h q23 (v5 + (-1 : Int32)).toNatClampNeg) h) fun r28 => gd (decide (kd h q17 = 13)) <| gd (ix ((v5 + (-1 : Int32)) - (1 : Int32)) (zl h q17)) <| F_X10_holding_b177 v0 v1 v2 v3 v4 (v5 + (-1 : Int32)) v6 (setI h q17 ((v5 + (-1 : Int32)) - (1 : Int32)).toNatClampNeg r28)))) else F_X10_holding_b39 v0 v1 v2 v3 v4 v5 v6 (zI h q2 (v6).toNatClampNeg) h)))
set_option maxHeartbeats 4000000 in
set_option maxRecDepth 100000 in
theorem r_X10_holding_l9 (v0 : Nat) (v1 : Nat) (v2 : Int32) (v3 : Nat) (v4 : Int32) (v5 : Int32) (v6 : Int32) (h : Hp) {x : Cx} {o : ((Int32 × Int32 × Int32 × Hp) ⊕ (Int32 × Hp))} (e : F_X10_holding_l9 v0 v1 v2 v3 v4 v5 v6 h = some o) (kI : ∀ z, o = .inl z → V M_X10_holding x 3 9 [(0, .ref v0), (1, .ref v1), (2, .int v2), (3, .ref v3), (4, .int z.1), (5, .int z.2.1), (6, .int z.2.2.1)] [] z.2.2.2 0 0) (kE183 : ∀ z : Int32 × Hp, o = .inr z → V M_X10_holding x 3 183 [(4, .int z.1)] [] z.2 0 0) : V M_X10_holding x 3 9 [(0, .ref v0), (1, .ref v1), (2, .int v2), (3, .ref v3), (4, .int v4), (5, .int v5), (6, .int v6)] [] h 0 0 := by
  unfold F_X10_holding_l9 at e
  refine V_iload (pc := 9) (i := 6) dX10_holding_9 rfl ?_
  refine V_aload_n (pc := 11) (i := 0) dX10_holding_11 rfl rfl ?_
  obtain ⟨g1, e⟩ := gd_some e
  refine V_getI (pc := 12) (ci := 9) (k := 3) dX10_holding_12 fl_X10_18 rfl (of_decide_eq_true g1) ?_
  refine V_icmp_ge (pc := 15) (tgt := 183) dX10_holding_15 (by decide) (fun c50 => ?_) (fun c50 => ?_)
  · rw [if_pos c50] at e
    cases e
    exact V_pick [4] rfl (kE183 (v4, h) rfl)
  · rw [if_neg c50] at e
    refine V_pick [0, 1, 2, 3, 4, 5, 6] rfl ?_
    refine V_aload_n (pc := 18) (i := 0) dX10_holding_18 rfl rfl ?_
    obtain ⟨q2, g3, e⟩ := ob_some e
    refine V_getR (pc := 19) (ci := 9) (k := 1) (b := q2) dX10_holding_19 fl_X10_9 rfl (of_decide_eq_true g1) g3 ?_
    refine V_iload (pc := 22) (i := 6) dX10_holding_22 rfl ?_
    obtain ⟨g4, e⟩ := gd_some e
    obtain ⟨g5, e⟩ := gd_some e
    refine V_iald (pc := 24) dX10_holding_24 (of_decide_eq_true g4) (ix_in g5) ?_
    refine V_istore (pc := 25) (i := 7) (lv' := [(7, .int (zI h q2 (v6).toNatClampNeg)), (0, .ref v0), (1, .ref v1), (2, .int v2), (3, .ref v3), (4, .int v4), (5, .int v5), (6, .int v6)]) dX10_holding_25 (by decide) rfl ?_
    refine V_iload (pc := 27) (i := 7) dX10_holding_27 rfl ?_
    refine V_if_ge (pc := 29) (tgt := 39) dX10_holding_29 (by decide) (fun c49 => ?_) (fun c49 => ?_)
    · rw [if_pos c49] at e
      exact V_pick [1, 2, 3, 4, 5, 6, 7, 0] rfl (r_X10_holding_b39 v0 v1 v2 v3 v4 v5 v6 (zI h q2 (v6).toNatClampNeg) h e kI kE183)
    · rw [if_neg c49] at e
      refine V_pick [1, 2, 3, 4, 5, 6, 7, 0] rfl ?_
      refine V_iload (pc := 32) (i := 7) dX10_holding_32 rfl ?_
      refine V_bipush (pc := 34) (v := (-8 : Int32)) dX10_holding_34 (by decide) ?_
      refine V_icmp_gt (pc := 36) (tgt := 70) dX10_holding_36 (by decide) (fun c48 => ?_) (fun c48 => ?_)
      · rw [if_pos c48] at e
        refine V_pick [0, 1, 2, 3, 4, 5, 6, 7] rfl ?_
        refine V_iload (pc := 70) (i := 7) dX10_holding_70 rfl ?_
        refine V_bipush (pc := 72) (v := (-7 : Int32)) dX10_holding_72 (by decide) ?_
        refine V_icmp_ne (pc := 74) (tgt := 103) dX10_holding_74 (by decide) (fun c47 => ?_) (fun c47 => ?_)
        · rw [if_neg c47] at e
          refine V_pick [0, 1, 2, 3, 4, 5, 6, 7] rfl ?_
          refine V_iload (pc := 103) (i := 7) dX10_holding_103 rfl ?_
          refine V_bipush (pc := 105) (v := (-6 : Int32)) dX10_holding_105 (by decide) ?_
          refine V_icmp_ne (pc := 107) (tgt := 138) dX10_holding_107 (by decide) (fun c41 => ?_) (fun c41 => ?_)
          · rw [if_neg c41] at e
            refine V_pick [0, 1, 2, 3, 4, 5, 6, 7] rfl ?_
            refine V_iload (pc := 138) (i := 5) dX10_holding_138 rfl ?_
            refine V_iconst (pc := 140) (v := (1 : Int32)) dX10_holding_140 (by decide) ?_
            refine V_icmp_le (pc := 141) (tgt := 177) dX10_holding_141 (by decide) (fun c31 => ?_) (fun c31 => ?_)
            · rw [if_pos c31] at e
              exact V_pick [0, 1, 2, 3, 4, 5, 6] rfl (r_X10_holding_b177 v0 v1 v2 v3 v4 v5 v6 h e kI kE183)
            · rw [if_neg c31] at e
              refine V_pick [0, 1, 2, 3, 4, 5, 6, 7] rfl ?_
              refine V_iinc (pc := 144) (i := 5) (u := v5 + (-1 : Int32)) (lv' := [(5, .int (v5 + (-1 : Int32))), (0, .ref v0), (1, .ref v1), (2, .int v2), (3, .ref v3), (4, .int v4), (6, .int v6), (7, .int (zI h q2 (v6).toNatClampNeg))]) dX10_holding_144 rfl rfl (by decide) rfl ?_
              refine V_aload_n (pc := 147) (i := 0) dX10_holding_147 rfl rfl ?_
              obtain ⟨q17, g18, e⟩ := ob_some e
              refine V_getR (pc := 148) (ci := 9) (k := 2) (b := q17) dX10_holding_148 fl_X10_15 rfl (of_decide_eq_true g1) g18 ?_
              refine V_iload (pc := 151) (i := 5) dX10_holding_151 rfl ?_
              refine V_iconst (pc := 153) (v := (1 : Int32)) dX10_holding_153 (by decide) ?_
              refine V_isub (pc := 154) dX10_holding_154 ?_
              refine V_iload (pc := 155) (i := 7) dX10_holding_155 rfl ?_
              refine V_aload_n (pc := 157) (i := 0) dX10_holding_157 rfl rfl ?_
              obtain ⟨q19, g20, e⟩ := ob_some e
              refine V_getR (pc := 158) (ci := 9) (k := 2) (b := q19) dX10_holding_158 fl_X10_15 rfl (of_decide_eq_true g1) g20 ?_
              refine V_iload (pc := 161) (i := 5) dX10_holding_161 rfl ?_
              refine V_iconst (pc := 163) (v := (1 : Int32)) dX10_holding_163 (by decide) ?_
              refine V_isub (pc := 164) dX10_holding_164 ?_
              obtain ⟨g21, e⟩ := gd_some e
              obtain ⟨g22, e⟩ := gd_some e
              refine V_iald (pc := 165) dX10_holding_165 (of_decide_eq_true g21) (ix_in g22) ?_
              refine V_aload_n (pc := 166) (i := 0) dX10_holding_166 rfl rfl ?_
              obtain ⟨q23, g24, e⟩ := ob_some e
              refine V_getR (pc := 167) (ci := 9) (k := 2) (b := q23) dX10_holding_167 fl_X10_15 rfl (of_decide_eq_true g1) g24 ?_
              refine V_iload (pc := 170) (i := 5) dX10_holding_170 rfl ?_
              obtain ⟨g25, e⟩ := gd_some e
              obtain ⟨g26, e⟩ := gd_some e
              refine V_iald (pc := 172) dX10_holding_172 (of_decide_eq_true g25) (ix_in g26) ?_
              obtain ⟨r28, g27, e⟩ := ob_some e
              refine V_callS (pc := 173) (bc := 0) (bs := 0) (mc := 0) (ms := 0) (st := [.int ((v5 + (-1 : Int32)) - (1 : Int32)), .ref q17]) (As := [.int (zI h q2 (v6).toNatClampNeg), .int (zI h q19 ((v5 + (-1 : Int32)) - (1 : Int32)).toNatClampNeg), .int (zI h q23 (v5 + (-1 : Int32)).toNatClampNeg)]) (h' := h) (r := some (.int r28)) dX10_holding_173 ml_X10_120 rfl rfl (Nat.le_of_ble_eq_true rfl) (d' := 0) (by decide) (c_X10_join (l := x.2.1) (zI h q2 (v6).toNatClampNeg) (zI h q19 ((v5 + (-1 : Int32)) - (1 : Int32)).toNatClampNeg) (zI h q23 (v5 + (-1 : Int32)).toNatClampNeg) h g27) ?_
              obtain ⟨g29, e⟩ := gd_some e
              obtain ⟨g30, e⟩ := gd_some e
              refine V_iast (pc := 176) dX10_holding_176 (of_decide_eq_true g29) (ix_in g30) ?_
              exact V_pick [1, 2, 3, 4, 5, 0, 6] rfl (r_X10_holding_b177 v0 v1 v2 v3 v4 (v5 + (-1 : Int32)) v6 (setI h q17 ((v5 + (-1 : Int32)) - (1 : Int32)).toNatClampNeg r28) e kI kE183)
          · rw [if_pos c41] at e
            refine V_pick [0, 1, 2, 3, 4, 5, 6] rfl ?_
            refine V_iload (pc := 110) (i := 5) dX10_holding_110 rfl ?_
            refine V_if_le (pc := 112) (tgt := 177) dX10_holding_112 (by decide) (fun c40 => ?_) (fun c40 => ?_)
            · rw [if_pos c40] at e
              exact V_pick [0, 1, 2, 3, 4, 5, 6] rfl (r_X10_holding_b177 v0 v1 v2 v3 v4 v5 v6 h e kI kE183)
            · rw [if_neg c40] at e
              refine V_pick [0, 1, 2, 3, 4, 5, 6] rfl ?_
              refine V_aload_n (pc := 115) (i := 0) dX10_holding_115 rfl rfl ?_
              obtain ⟨q32, g33, e⟩ := ob_some e
              refine V_getR (pc := 116) (ci := 9) (k := 2) (b := q32) dX10_holding_116 fl_X10_15 rfl (of_decide_eq_true g1) g33 ?_
              refine V_iload (pc := 119) (i := 5) dX10_holding_119 rfl ?_
              refine V_iconst (pc := 121) (v := (1 : Int32)) dX10_holding_121 (by decide) ?_
              refine V_isub (pc := 122) dX10_holding_122 ?_
              refine V_iconst (pc := 123) (v := (1 : Int32)) dX10_holding_123 (by decide) ?_
              refine V_aload_n (pc := 124) (i := 0) dX10_holding_124 rfl rfl ?_
              obtain ⟨q34, g35, e⟩ := ob_some e
              refine V_getR (pc := 125) (ci := 9) (k := 2) (b := q34) dX10_holding_125 fl_X10_15 rfl (of_decide_eq_true g1) g35 ?_
              refine V_iload (pc := 128) (i := 5) dX10_holding_128 rfl ?_
              refine V_iconst (pc := 130) (v := (1 : Int32)) dX10_holding_130 (by decide) ?_
              refine V_isub (pc := 131) dX10_holding_131 ?_
              obtain ⟨g36, e⟩ := gd_some e
              obtain ⟨g37, e⟩ := gd_some e
              refine V_iald (pc := 132) dX10_holding_132 (of_decide_eq_true g36) (ix_in g37) ?_
              refine V_isub (pc := 133) dX10_holding_133 ?_
              obtain ⟨g38, e⟩ := gd_some e
              obtain ⟨g39, e⟩ := gd_some e
              refine V_iast (pc := 134) dX10_holding_134 (of_decide_eq_true g38) (ix_in g39) ?_
              refine V_goto (pc := 135) (tgt := 177) dX10_holding_135 (by decide) ?_
              exact V_pick [0, 1, 2, 3, 4, 5, 6] rfl (r_X10_holding_b177 v0 v1 v2 v3 v4 v5 v6 (setI h q32 (v5 - (1 : Int32)).toNatClampNeg ((1 : Int32) - (zI h q34 (v5 - (1 : Int32)).toNatClampNeg))) e kI kE183)
        · rw [if_pos c47] at e
          refine V_pick [0, 1, 2, 3, 4, 5, 6] rfl ?_
          refine V_iload (pc := 77) (i := 4) dX10_holding_77 rfl ?_
          refine V_iload (pc := 79) (i := 5) dX10_holding_79 rfl ?_
          refine V_if_le (pc := 81) (tgt := 93) dX10_holding_81 (by decide) (fun c46 => ?_) (fun c46 => ?_)
          · rw [if_pos c46] at e
            refine V_pick [0, 1, 2, 3, 6] rfl ?_
            refine V_iconst (pc := 93) (v := (0 : Int32)) dX10_holding_93 (by decide) ?_
            exact V_pick [0, 1, 2, 3, 4] rfl (r_X10_holding_b94 v0 v1 v2 v3 v6 v4 (0 : Int32) h e kI kE183)
          · rw [if_neg c46] at e
            refine V_pick [0, 1, 2, 3, 6] rfl ?_
            refine V_aload_n (pc := 84) (i := 0) dX10_holding_84 rfl rfl ?_
            obtain ⟨q42, g43, e⟩ := ob_some e
            refine V_getR (pc := 85) (ci := 9) (k := 2) (b := q42) dX10_holding_85 fl_X10_15 rfl (of_decide_eq_true g1) g43 ?_
            refine V_iconst (pc := 88) (v := (0 : Int32)) dX10_holding_88 (by decide) ?_
            obtain ⟨g44, e⟩ := gd_some e
            obtain ⟨g45, e⟩ := gd_some e
            refine V_iald (pc := 89) dX10_holding_89 (of_decide_eq_true g44) (ix_in g45) ?_
            refine V_goto (pc := 90) (tgt := 94) dX10_holding_90 (by decide) ?_
            exact V_pick [0, 1, 2, 3, 4] rfl (r_X10_holding_b94 v0 v1 v2 v3 v6 v4 (zI h q42 ((0 : Int32)).toNatClampNeg) h e kI kE183)
      · rw [if_neg c48] at e
        exact V_pick [0, 1, 2, 3, 4, 5, 6, 7] rfl (r_X10_holding_b39 v0 v1 v2 v3 v4 v5 v6 (zI h q2 (v6).toNatClampNeg) h e kI kE183)
set_option maxRecDepth 100000 in
def F_X10_holding_b0 (v0 : Nat) (v1 : Nat) (v2 : Int32) (v3 : Nat) (h : Hp) : Option (Int32 × Hp) :=
  ob (iter (fun z : Int32 × Int32 × Int32 × Hp => F_X10_holding_l9 v0 v1 v2 v3 z.1 z.2.1 z.2.2.1 z.2.2.2) FU ((0 : Int32), (0 : Int32), (0 : Int32), h)) (fun z => un2 z fun w51 h52 => some (w51, h52))
set_option maxHeartbeats 4000000 in
set_option maxRecDepth 100000 in
theorem r_X10_holding_b0 (v0 : Nat) (v1 : Nat) (v2 : Int32) (v3 : Nat) (h : Hp) {x : Cx} {r : Int32} {hz : Hp} (e : F_X10_holding_b0 v0 v1 v2 v3 h = some (r, hz)) (hF : Fin9 M_X10_holding x (some .int) (some (.int r)) hz) : V M_X10_holding x 3 0 [(0, .ref v0), (1, .ref v1), (2, .int v2), (3, .ref v3)] [] h 0 0 := by
  unfold F_X10_holding_b0 at e
  refine V_iconst (pc := 0) (v := (0 : Int32)) dX10_holding_0 (by decide) ?_
  refine V_istore (pc := 1) (i := 4) (lv' := [(4, .int (0 : Int32)), (0, .ref v0), (1, .ref v1), (2, .int v2), (3, .ref v3)]) dX10_holding_1 (by decide) rfl ?_
  refine V_iconst (pc := 3) (v := (0 : Int32)) dX10_holding_3 (by decide) ?_
  refine V_istore (pc := 4) (i := 5) (lv' := [(5, .int (0 : Int32)), (4, .int (0 : Int32)), (0, .ref v0), (1, .ref v1), (2, .int v2), (3, .ref v3)]) dX10_holding_4 (by decide) rfl ?_
  refine V_iconst (pc := 6) (v := (0 : Int32)) dX10_holding_6 (by decide) ?_
  refine V_istore (pc := 7) (i := 6) (lv' := [(6, .int (0 : Int32)), (5, .int (0 : Int32)), (4, .int (0 : Int32)), (0, .ref v0), (1, .ref v1), (2, .int v2), (3, .ref v3)]) dX10_holding_7 (by decide) rfl ?_
  refine V_pick [3, 4, 5, 6, 2, 1, 0] rfl ?_
  obtain ⟨y53, g54, e⟩ := ob_some e
  refine iter_V (P := fun z : Int32 × Int32 × Int32 × Hp => V M_X10_holding x 3 9 [(0, .ref v0), (1, .ref v1), (2, .int v2), (3, .ref v3), (4, .int z.1), (5, .int z.2.1), (6, .int z.2.2.1)] [] z.2.2.2 0 0) (E := fun z : Int32 × Hp => V M_X10_holding x 3 183 [(4, .int z.1)] [] z.2 0 0) (fun z o e9 k1 k2 => r_X10_holding_l9 v0 v1 v2 v3 z.1 z.2.1 z.2.2.1 z.2.2.2 e9 (fun z hz9 => k1 z hz9) (fun z hz9 => k2 _ hz9)) _ _ _ g54 ?_
  clear g54
  obtain ⟨w51, h52⟩ := y53
  replace e : (some (w51, h52)) = some (r, hz) := e
  show V M_X10_holding x 3 183 [(4, .int w51)] [] h52 0 0
  refine V_iload (pc := 183) (i := 4) dX10_holding_183 rfl ?_
  cases e
  exact V_iret (pc := 185) dX10_holding_185 hF
def F_X10_holding (v0 : Nat) (v1 : Nat) (v2 : Int32) (v3 : Nat) (h : Hp) : Option (Int32 × Hp) := F_X10_holding_b0 v0 v1 v2 v3 h
theorem c_X10_holding {l : Launch} (v0 : Nat) (v1 : Nat) (v2 : Int32) (v3 : Nat) (h : Hp) {r : Int32} {hz : Hp} (e : F_X10_holding v0 v1 v2 v3 h = some (r, hz)) : Ct l yX10_holding M_X10_holding (some .int) 3 [.ref v0, .ref v1, .int v2, .ref v3] h 0 0 (some (.int r)) hz :=
  Ct_of rfl rfl (fun q => by cases q) (Nat.le_of_ble_eq_true rfl) (fun x _ hF => V_pick [0, 1, 2, 3] rfl (r_X10_holding_b0 v0 v1 v2 v3 h e hF))
